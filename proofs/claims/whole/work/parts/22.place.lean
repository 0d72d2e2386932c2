theorem wb_tb (n : Nat) : (lN n).toBitVec = BitVec.ofNat 64 n := rfl
theorem wb_inj {a b : Int64} (h : a.toBitVec = b.toBitVec) : a = b := Int64.toBitVec_inj.mp h
theorem wb_tn {n : Nat} (h : n < 2 ^ 64) : (lN n).toBitVec.toNat = n := by rw [wb_tb, BitVec.toNat_ofNat, Nat.mod_eq_of_lt h]
theorem wb_of (x : Int64) : ∃ n, n < 2 ^ 64 ∧ x = lN n := ⟨x.toBitVec.toNat, x.toBitVec.isLt, wb_inj (by rw [wb_tb]; simp)⟩
theorem wb_of32 (x : Int32) : ∃ n, n < 2 ^ 32 ∧ x = nI n := ⟨x.toBitVec.toNat, x.toBitVec.isLt, Int32.toBitVec_inj.mp (by show _ = BitVec.ofNat 32 _; simp)⟩
theorem wb_c : ∀ k, k < 64 → ((nI k).toInt64 &&& 63) = lN k := by decide +kernel
theorem wb_cu : ∀ k, k < 64 → ((nI k).toInt64.toUInt64 &&& Int64.toUInt64 63) = UInt64.ofNat k := by decide +kernel
theorem wb_sm : ∀ k, k < 64 → (BitVec.ofNat 64 k).smod 64 = BitVec.ofNat 64 k := by decide +kernel
theorem wb_pw {a b : Nat} (h : a ≤ b) : 2 ^ b = 2 ^ a * 2 ^ (b - a) := by rw [← Nat.pow_add]; congr 1; omega
theorem wb_lt2 {a b : Nat} (h : a < b) : 2 ^ a < 2 ^ b := Nat.pow_lt_pow_right (by decide) h
theorem wb_mod (n : Nat) : lN n = lN (n % 2 ^ 64) := wb_inj (by rw [wb_tb, wb_tb]; apply BitVec.eq_of_toNat_eq; rw [BitVec.toNat_ofNat, BitVec.toNat_ofNat, Nat.mod_mod])
theorem wb_shr {n k : Nat} (hn : n < 2 ^ 64) (hk : k < 64) : ((lN n).toUInt64 >>> ((nI k).toInt64.toUInt64 &&& Int64.toUInt64 63)).toInt64 = lN (n / 2 ^ k) := by
  rw [wb_cu k hk]
  apply wb_inj
  apply BitVec.eq_of_toNat_eq
  show ((lN n).toUInt64 >>> UInt64.ofNat k).toNat = (BitVec.ofNat 64 _).toNat
  have h1 : (UInt64.ofNat k).toNat = k := by
    show (BitVec.ofNat 64 k).toNat = k
    rw [BitVec.toNat_ofNat, Nat.mod_eq_of_lt (by omega)]
  have h2 : (lN n).toUInt64.toNat = n := wb_tn hn
  rw [UInt64.toNat_shiftRight, h1, h2, Nat.mod_eq_of_lt hk, Nat.shiftRight_eq_div_pow, BitVec.toNat_ofNat, Nat.mod_eq_of_lt (Nat.lt_of_le_of_lt (Nat.div_le_self _ _) hn)]
theorem ush_n (x : Int64) : ∃ i, i < 2 ^ 31 ∧ (jUshr x 33).toInt32 = nI i := by
  obtain ⟨n, hn, rfl⟩ := wb_of x
  refine ⟨n / 2 ^ 33, Nat.div_lt_of_lt_mul (by omega), ?_⟩
  have h : jUshr (lN n) 33 = lN (n / 2 ^ 33) := wb_shr (k := 33) hn (by decide)
  rw [h, lN_i]
/-- a place that was found: the car fits there -/
def plOk (r : Int32) (j : Nat) : Prop := r = -1 ∨ ∃ x, r = nI x ∧ x + j ≤ 80
theorem key_room {g : Rw} {j r k : Nat} (hj : j ≤ 8) (hr : r ≤ 4) (h3 : g 3 = nI r) (hk : k ≤ 80) : (nI (f_X7_gapCells g k) < nI j + g 3 ↔ f_X7_gapCells g k < j + r) ∧ k + f_X7_gapCells g k ≤ 80 := by
  have h1 := cells_le g hk
  refine ⟨?_, h1⟩
  rw [h3, nI_add]
  exact nI_ltI (by omega) (by omega)
theorem rRule_ok {g : Rw} {j r : Nat} (hj : j ≤ 8) (hr : r ≤ 4) (h3 : g 3 = nI r) : ∀ (n : Nat) (best : Int32) (k : Nat), k ≤ 80 → 80 < k + n → plOk best j → plOk (lp_rRule g (nI j) n best k) j := by
  intro n
  induction n with
  | zero => intro best k hk hn hb; exact hb
  | succ n ih =>
    intro best k hk hn hb
    rw [lp_rRule]
    by_cases c1 : (80 : Int32) ≤ nI k
    · rw [if_pos c1]
      exact hb
    · rw [if_neg c1]
      have hlt : k < 80 := kN (B := 80) c1 (by omega) (by omega)
      have hx := next_gt g hlt
      have i1 := ih best _ hx.2 (by omega) hb
      obtain ⟨e1, e2⟩ := key_room hj hr h3 (g := g) hk
      by_cases c2 : nI (f_X7_gapCells g k) < nI j + g 3
      · rw [if_pos c2, if_pos rfl]
        exact i1
      · have i2 := ih (nI k) _ hx.2 (by omega) (Or.inr ⟨k, rfl, by rw [e1] at c2; omega⟩)
        rw [if_neg c2]
        repeat' split
        all_goals first | exact i1 | exact i2
theorem byRule_ok {g : Rw} {j r : Nat} (hj : j ≤ 8) (hr : r ≤ 4) (h3 : g 3 = nI r) : plOk (f_X7_byRule g (nI j)) j := rRule_ok hj hr h3 _ _ _ (from_le g (by omega)).2 (by omega) (Or.inl rfl)
theorem rPick_ok {g : Rw} {j r : Nat} (hj : j ≤ 8) (hr : r ≤ 4) (h3 : g 3 = nI r) : ∀ (n i k : Nat), i < 2 ^ 31 → k ≤ 80 → 80 < k + n → plOk (lp_rPick (nI j) n (nI i) k g).1 j := by
  intro n
  induction n with
  | zero => intro i k hi hk hn; omega
  | succ n ih =>
    intro i k hi hk hn
    rw [lp_rPick]
    by_cases c1 : (80 : Int32) ≤ nI k
    · rw [if_pos c1]
      exact Or.inl rfl
    · rw [if_neg c1]
      have hlt : k < 80 := kN (B := 80) c1 (by omega) (by omega)
      have hx := next_gt g hlt
      obtain ⟨e1, e2⟩ := key_room hj hr h3 (g := g) hk
      by_cases c2 : nI (f_X7_gapCells g k) < nI j + g 3
      · rw [if_pos c2, if_pos (show (0 : Int32) ≤ nI i from nI_pos' hi), show nI i - 0 = nI i from pk_sub (Nat.zero_le i)]
        exact ih i _ hi hx.2 (by omega)
      · rw [if_neg c2]
        rw [e1] at c2
        have e3 : nI (f_X7_gapCells g k) - nI j + 1 = nI (f_X7_gapCells g k - j + 1) := by rw [pk_sub (by omega), nI_1]
        rw [e3]
        by_cases c3 : nI (f_X7_gapCells g k - j + 1) ≤ nI i
        · rw [if_pos c3]
          rw [nI_leI (by omega) hi] at c3
          rw [pk_sub c3]
          exact ih _ _ (by omega) hx.2 (by omega)
        · rw [if_neg c3]
          rw [nI_leI (by omega) hi] at c3
          exact Or.inr ⟨k + i, nI_add k i, by omega⟩
theorem lay_3 (g : Rw) (x : Int64) {i : Nat} (h : i ≠ 5) (h6 : i ≠ 6) : h_X7_layChance g x i = g i := by
  rw [h_X7_layChance, pk_un h6, pk_un h]
theorem rAll_ok {g : Rw} {j r : Nat} (hj : j ≤ 8) (hr : r ≤ 4) (h3 : g 3 = nI r) : ∀ (n t k : Nat), t + (80 - k) * 82 < 10000 → k ≤ 80 → 80 < k + n → plOk (lp_rAll g (nI j) n (nI t) k).1 j := by
  intro n
  induction n with
  | zero => intro t k ht hk hn; omega
  | succ n ih =>
    intro t k ht hk hn
    rw [lp_rAll]
    by_cases c1 : (80 : Int32) ≤ nI k
    · rw [if_pos c1]
      by_cases c2 : nI t = 0
      · rw [if_pos c2]
        exact Or.inl rfl
      · rw [if_neg c2]
        obtain ⟨i, hi, e⟩ := ush_n (f_X7_chance g * 6364136223846793005 + 1442695040888963407)
        have t0 : 0 < t := Nat.pos_of_ne_zero fun z => c2 (by rw [z]; rfl)
        rw [e, pk_rem hi t0 (by omega)]
        exact rPick_ok hj hr ((lay_3 g _ (by decide) (by decide)).trans h3) _ _ _ (Nat.lt_of_lt_of_le (Nat.mod_lt _ t0) (by omega)) (from_le _ (by omega)).2 (by omega)
    · rw [if_neg c1]
      have hlt : k < 80 := kN (B := 80) c1 (by omega) (by omega)
      have hx := next_gt g hlt
      obtain ⟨e1, e2⟩ := key_room hj hr h3 (g := g) hk
      by_cases c2 : nI (f_X7_gapCells g k) < nI j + g 3
      · rw [if_pos c2, show nI t + 0 = nI t from nI_add t 0]
        exact ih t _ (by omega) hx.2 (by omega)
      · rw [if_neg c2]
        rw [e1] at c2
        rw [pk_sub (by omega), nI_1, nI_add]
        exact ih _ _ (by omega) hx.2 (by omega)
theorem byChance_ok {g : Rw} {j r : Nat} (hj : j ≤ 8) (hr : r ≤ 4) (h3 : g 3 = nI r) : plOk (h_X7_byChance g (nI j)).1 j := rAll_ok hj hr h3 _ 0 _ (by have := from_le g (j := 0) (by omega); omega) (from_le g (by omega)).2 (by omega)
theorem place_ok {g : Rw} {j r : Nat} (hj : j ≤ 8) (hr : r ≤ 4) (h3 : g 3 = nI r) : plOk (h_X7_placeFor g (nI j)).1 j := by
  rw [h_X7_placeFor]
  split
  · exact byChance_ok hj hr h3
  · exact byRule_ok hj hr h3
theorem pl_n {r : Int32} {j : Nat} (h : plOk r j) (hn : ¬ r = -1) : r = nI r.toNatClampNeg ∧ r.toNatClampNeg + j ≤ 80 := by
  rcases h with z | ⟨x, e, hx⟩
  · exact absurd z hn
  · rw [e, nI_clamp (by omega)]
    exact ⟨rfl, hx⟩
