theorem lpCells_free (g : Rw) (j : Nat) : ∀ (n k : Nat), k ≤ 80 → k + n = 81 → j ≤ k → (∀ i, j ≤ i → i < k → g (7 + i) = -1) → ∀ i, j ≤ i → i < j + lp_gapCells g j n k → g (7 + i) = -1 := by
  intro n
  induction n with
  | zero => intro k hk hn; omega
  | succ n ih =>
    intro k hk hn hj hf i h1 h2
    rw [lp_gapCells] at h2
    by_cases c1 : (80 : Int32) ≤ nI k
    · rw [if_pos c1] at h2
      exact hf i h1 (by omega)
    · rw [if_neg c1] at h2
      have hlt : k < 80 := kN (B := 80) c1 (by omega) (by omega)
      by_cases c2 : g (7 + k) = -1
      · rw [if_pos c2] at h2
        refine ih (k + 1) (by omega) (by omega) (by omega) (fun i' a b => ?_) i h1 h2
        by_cases e : i' = k
        · rw [e]
          exact c2
        · exact hf i' a (by omega)
      · rw [if_neg c2] at h2
        exact hf i h1 (by omega)
theorem cells_free (g : Rw) {j : Nat} (hj : j ≤ 80) {i : Nat} (h1 : j ≤ i) (h2 : i < j + f_X7_gapCells g j) : g (7 + i) = -1 :=
  lpCells_free g j _ j hj (by omega) (Nat.le_refl _) (fun i' a b => by omega) i h1 h2
/-- a place that was found: the car fits there, on free cells -/
def plF (g : Rw) (r : Int32) (j : Nat) : Prop := r = -1 ∨ ∃ x, r = nI x ∧ x + j ≤ 80 ∧ ∀ i, x ≤ i → i < x + j → g (7 + i) = -1
theorem rRule_fr {g : Rw} {j r : Nat} (hj : j ≤ 8) (hr : r ≤ 4) (h3 : g 3 = nI r) : ∀ (n : Nat) (best : Int32) (k : Nat), k ≤ 80 → 80 < k + n → plF g best j → plF g (lp_rRule g (nI j) n best k) j := by
  intro n
  induction n with
  | zero => intro best k hk hn hb; exact hb
  | succ n ih =>
    intro best k hk hn hb
    rw [lp_rRule]
    by_cases c1 : (80 : Int32) ≤ nI k
    · rw [if_pos c1]
      exact hb
    · rw [if_neg c1]
      have hlt : k < 80 := kN (B := 80) c1 (by omega) (by omega)
      have hx := next_gt g hlt
      have i1 := ih best _ hx.2 (by omega) hb
      obtain ⟨e1, e2⟩ := key_room hj hr h3 (g := g) hk
      by_cases c2 : nI (f_X7_gapCells g k) < nI j + g 3
      · rw [if_pos c2, if_pos rfl]
        exact i1
      · rw [if_neg c2]
        rw [e1] at c2
        have i2 := ih (nI k) _ hx.2 (by omega) (Or.inr ⟨k, rfl, by omega, fun i a b => cells_free g hk a (by omega)⟩)
        repeat' split
        all_goals first | exact i1 | exact i2
theorem byRule_fr {g : Rw} {j r : Nat} (hj : j ≤ 8) (hr : r ≤ 4) (h3 : g 3 = nI r) : plF g (f_X7_byRule g (nI j)) j := rRule_fr hj hr h3 _ _ _ (from_le g (by omega)).2 (by omega) (Or.inl rfl)
theorem rPick_fr {g : Rw} {j r : Nat} (hj : j ≤ 8) (hr : r ≤ 4) (h3 : g 3 = nI r) : ∀ (n i k : Nat), i < 2 ^ 31 → k ≤ 80 → 80 < k + n → plF g (lp_rPick (nI j) n (nI i) k g).1 j := by
  intro n
  induction n with
  | zero => intro i k hi hk hn; omega
  | succ n ih =>
    intro i k hi hk hn
    rw [lp_rPick]
    by_cases c1 : (80 : Int32) ≤ nI k
    · rw [if_pos c1]
      exact Or.inl rfl
    · rw [if_neg c1]
      have hlt : k < 80 := kN (B := 80) c1 (by omega) (by omega)
      have hx := next_gt g hlt
      obtain ⟨e1, e2⟩ := key_room hj hr h3 (g := g) hk
      by_cases c2 : nI (f_X7_gapCells g k) < nI j + g 3
      · rw [if_pos c2, if_pos (show (0 : Int32) ≤ nI i from nI_pos' hi), show nI i - 0 = nI i from pk_sub (Nat.zero_le i)]
        exact ih i _ hi hx.2 (by omega)
      · rw [if_neg c2]
        rw [e1] at c2
        have e3 : nI (f_X7_gapCells g k) - nI j + 1 = nI (f_X7_gapCells g k - j + 1) := by rw [pk_sub (by omega), nI_1]
        rw [e3]
        by_cases c3 : nI (f_X7_gapCells g k - j + 1) ≤ nI i
        · rw [if_pos c3]
          rw [nI_leI (by omega) hi] at c3
          rw [pk_sub c3]
          exact ih _ _ (by omega) hx.2 (by omega)
        · rw [if_neg c3]
          rw [nI_leI (by omega) hi] at c3
          exact Or.inr ⟨k + i, nI_add k i, by omega, fun i' a b => cells_free g hk (by omega) (by omega)⟩
theorem plF_cong {g g' : Rw} {r : Int32} {j : Nat} (h : plF g r j) (e : ∀ i, 7 ≤ i → i < 87 → g' i = g i) : plF g' r j := by
  rcases h with z | ⟨x, a, b, d⟩
  · exact Or.inl z
  · exact Or.inr ⟨x, a, b, fun i h1 h2 => (e _ (by omega) (by omega)).trans (d i h1 h2)⟩
theorem rAll_fr {g : Rw} {j r : Nat} (hj : j ≤ 8) (hr : r ≤ 4) (h3 : g 3 = nI r) : ∀ (n t k : Nat), t + (80 - k) * 82 < 10000 → k ≤ 80 → 80 < k + n → plF g (lp_rAll g (nI j) n (nI t) k).1 j := by
  intro n
  induction n with
  | zero => intro t k ht hk hn; omega
  | succ n ih =>
    intro t k ht hk hn
    rw [lp_rAll]
    by_cases c1 : (80 : Int32) ≤ nI k
    · rw [if_pos c1]
      by_cases c2 : nI t = 0
      · rw [if_pos c2]
        exact Or.inl rfl
      · rw [if_neg c2]
        obtain ⟨i, hi, e⟩ := ush_n (f_X7_chance g * 6364136223846793005 + 1442695040888963407)
        have t0 : 0 < t := Nat.pos_of_ne_zero fun z => c2 (by rw [z]; rfl)
        rw [e, pk_rem hi t0 (by omega)]
        exact plF_cong (rPick_fr hj hr ((lay_3 g _ (by decide) (by decide)).trans h3) _ _ _ (Nat.lt_of_lt_of_le (Nat.mod_lt _ t0) (by omega)) (from_le _ (by omega)).2 (by omega)) fun i h1 _ => (lay_3 g _ (by omega) (by omega)).symm
    · rw [if_neg c1]
      have hlt : k < 80 := kN (B := 80) c1 (by omega) (by omega)
      have hx := next_gt g hlt
      obtain ⟨e1, e2⟩ := key_room hj hr h3 (g := g) hk
      by_cases c2 : nI (f_X7_gapCells g k) < nI j + g 3
      · rw [if_pos c2, show nI t + 0 = nI t from nI_add t 0]
        exact ih t _ (by omega) hx.2 (by omega)
      · rw [if_neg c2]
        rw [e1] at c2
        rw [pk_sub (by omega), nI_1, nI_add]
        exact ih _ _ (by omega) hx.2 (by omega)
theorem byChance_g (g : Rw) (len : Int32) {i : Nat} (h5 : i ≠ 5) (h6 : i ≠ 6) : (h_X7_byChance g len).2 i = g i := rAll_g g len h5 h6 _ _ _
theorem byChance_fr {g : Rw} {j r : Nat} (hj : j ≤ 8) (hr : r ≤ 4) (h3 : g 3 = nI r) : plF g (h_X7_byChance g (nI j)).1 j := rAll_fr hj hr h3 _ 0 _ (by have := from_le g (j := 0) (by omega); omega) (from_le g (by omega)).2 (by omega)
theorem place_fr {g : Rw} {j : Nat} (hj : j ≤ 8) (h3 : ∃ r, r ≤ 4 ∧ g 3 = nI r) : plF g (h_X7_placeFor g (nI j)).1 j := by
  obtain ⟨r, hr, h3⟩ := h3
  rw [h_X7_placeFor]
  split
  · exact byChance_fr hj hr h3
  · exact byRule_fr hj hr h3
theorem rFill_at (x j : Nat) (v : Int32) (hx : x + j ≤ 80) : ∀ (n k : Nat) (g : Rw) (i : Nat), x ≤ k → k ≤ x + j → k + n = x + j + 1 → lp_rFill x j v n k g i = if 7 + k ≤ i ∧ i < 7 + x + j then v else g i := by
  intro n
  induction n with
  | zero => intro k g i h1 h2 h3; omega
  | succ n ih =>
    intro k g i h1 h2 h3
    rw [lp_rFill]
    by_cases c1 : nI (x + j) ≤ nI k
    · rw [nI_leI (by omega) (by omega)] at c1
      rw [if_pos ((nI_leI (by omega) (by omega)).mpr c1), if_neg (by omega)]
    · rw [if_neg c1]
      rw [nI_leI (by omega) (by omega)] at c1
      rw [ih (k + 1) _ i (by omega) (by omega) (by omega)]
      by_cases c2 : 7 + (k + 1) ≤ i ∧ i < 7 + x + j
      · rw [if_pos c2, if_pos ⟨by omega, c2.2⟩]
      · rw [if_neg c2]
        by_cases c3 : i = 7 + k
        · subst c3
          rw [pk_us, if_pos ⟨by omega, by omega⟩]
        · rw [pk_un c3, if_neg (by omega)]
theorem fill_at (g : Rw) {x j : Nat} (v : Int32) (hx : x + j ≤ 80) (i : Nat) : h_X7_fill g x j v i = if 7 + x ≤ i ∧ i < 7 + x + j then v else g i := rFill_at x j v hx _ x g i (Nat.le_refl _) (by omega) (by omega)
/-- how many of the first n cells are free -/
def fre (g : Rw) : Nat → Nat
  | 0 => 0
  | n + 1 => fre g n + if g (7 + n) = -1 then 1 else 0
theorem fre_le (g : Rw) : ∀ n, fre g n ≤ n := by
  intro n
  induction n with
  | zero => exact Nat.le_refl _
  | succ n ih => rw [fre]; split <;> omega
theorem fre_mono {g g' : Rw} : ∀ n, (∀ i, i < n → g' (7 + i) = -1 → g (7 + i) = -1) → fre g' n ≤ fre g n := by
  intro n
  induction n with
  | zero => intro _; exact Nat.le_refl _
  | succ n ih =>
    intro h
    have h1 := ih fun i hi => h i (by omega)
    have h2 := h n (by omega)
    rw [fre, fre]
    by_cases c : g' (7 + n) = -1
    · rw [if_pos c, if_pos (h2 c)]
      omega
    · rw [if_neg c]
      omega
theorem fre_lt {g g' : Rw} {x : Nat} (hx : g (7 + x) = -1) (hx' : ¬ g' (7 + x) = -1) : ∀ n, x < n → (∀ i, i < n → g' (7 + i) = -1 → g (7 + i) = -1) → fre g' n < fre g n := by
  intro n
  induction n with
  | zero => intro h; omega
  | succ n ih =>
    intro h1 h
    rw [fre, fre]
    by_cases e : x = n
    · subst e
      have h2 := fre_mono (g := g) (g' := g') x fun i hi => h i (by omega)
      rw [if_neg hx', if_pos hx]
      omega
    · have h2 := ih (by omega) fun i hi => h i (by omega)
      have h3 := h n (by omega)
      by_cases c : g' (7 + n) = -1
      · rw [if_pos c, if_pos (h3 c)]
        omega
      · rw [if_neg c]
        omega
theorem len_2 {x : Int32} (h : ¬ f_X7_isLength x = 0) : 2 ≤ x.toNatClampNeg ∧ x.toNatClampNeg ≤ 8 ∧ x = nI x.toNatClampNeg := by
  rw [f_X7_isLength] at h
  have h1 := in_ne h
  rw [i64, show (2 : Int64).toInt = 2 by decide, show (8 : Int64).toInt = 8 by decide] at h1
  obtain ⟨j, hj, rfl⟩ := nI_of (x := x) (by rw [Int32.lt_iff_toInt_lt, Int32.toInt_zero]; omega)
  rw [nI_toInt hj] at h1
  rw [nI_clamp hj]
  exact ⟨by omega, by omega, rfl⟩
theorem jam_by {g : Rw} {len : Int32} (hl : 2 ≤ len.toNatClampNeg ∧ len.toNatClampNeg ≤ 8 ∧ len = nI len.toNatClampNeg) (h3 : ∃ r, r ≤ 4 ∧ g 3 = nI r) : plF (h_X7_byChance g len).2 (h_X7_byChance g len).1 len.toNatClampNeg ∧ (∃ r, r ≤ 4 ∧ (h_X7_byChance g len).2 3 = nI r) ∧ fre (h_X7_byChance g len).2 80 = fre g 80 := by
  obtain ⟨r, hr, h3⟩ := h3
  have p := byChance_fr hl.2.1 hr h3
  rw [← hl.2.2] at p
  have e : ∀ i, 7 ≤ i → i < 87 → (h_X7_byChance g len).2 i = g i := fun i h1 h2 => byChance_g g len (by omega) (by omega)
  exact ⟨plF_cong p e, ⟨r, hr, (byChance_g g len (by omega) (by omega)).trans h3⟩, Nat.le_antisymm (fre_mono 80 fun i hi z => by rw [← e _ (by omega) (by omega)]; exact z) (fre_mono 80 fun i hi z => by rw [e _ (by omega) (by omega)]; exact z)⟩
theorem jam_fill {g : Rw} {x len : Int32} (hl : 2 ≤ len.toNatClampNeg ∧ len.toNatClampNeg ≤ 8 ∧ len = nI len.toNatClampNeg) (hp : plF g x len.toNatClampNeg) (hx : ¬ x = -1) : (x = nI x.toNatClampNeg ∧ x.toNatClampNeg + len.toNatClampNeg ≤ 80) ∧ fre (h_X7_fill g x.toNatClampNeg len.toNatClampNeg 100) 80 < fre g 80 := by
  rcases hp with z | ⟨u, e, hu, hf⟩
  · exact absurd z hx
  · have eu : x.toNatClampNeg = u := by rw [e, nI_clamp (by omega)]
    rw [eu]
    refine ⟨⟨e, hu⟩, fre_lt (x := u) (hf u (Nat.le_refl _) (by omega)) ?_ 80 (by omega) fun i hi z => ?_⟩
    · rw [fill_at g _ hu, if_pos ⟨by omega, by omega⟩]
      decide
    · rw [fill_at g _ hu] at z
      by_cases c : 7 + u ≤ 7 + i ∧ 7 + i < 7 + u + len.toNatClampNeg
      · rw [if_pos c] at z
        exact absurd z (by decide)
      · rw [if_neg c] at z
        exact z
theorem c_X7_fill_raw (l : Launch) (G : GG) (a : Nat) (g : Rw) (x j v : Int32) (hxj : (x = nI x.toNatClampNeg ∧ x.toNatClampNeg + j.toNatClampNeg ≤ 80) ∧ j = nI j.toNatClampNeg) : Met l yX7_fill wsX7_fill ({ frames := 0, cells := 0, slots := 0, locals := 0 }) (PcH G [.ref a, .int x, .int j, .int v] (Arr G 0 a 327 g)) (QM none (Arr G 0 a 327 (h_X7_fill g x.toNatClampNeg j.toNatClampNeg v)) (one a)) 0 0 (one a) := by
  have q := c_X7_fill l G a g x.toNatClampNeg j.toNatClampNeg v hxj.1.2
  rw [← hxj.1.1, ← hxj.2] at q
  exact q
theorem jam0 {M : Mo} {s : Int64} (h : RI (mN M)) : ∃ r, r ≤ 4 ∧ mR (oR (oR (h_X7_refused M 0).2 (h_X7_copyState (mN (h_X7_refused M 0).2) (mR (h_X7_refused M 0).2) 0 0)) (h_X7_layChance (mR (oR (h_X7_refused M 0).2 (h_X7_copyState (mN (h_X7_refused M 0).2) (mR (h_X7_refused M 0).2) 0 0))) s)) 3 = nI r := by
  obtain ⟨r, hr, e⟩ := h.2.1
  refine ⟨r, hr, ?_⟩
  rw [mR_oR, mR_oR, lay_3 _ _ (by omega) (by omega), cp_00 _ _ (by omega), ref_N]
  exact e

def lp_rJam (len : Int32) : Nat → Int32 → Int32 → Mo → Int32 × Mo
  | 0, acc, _, M2 => (acc, M2)
  | n + 1, acc, x, M2 => if x = (-1) then (acc, M2) else
    lp_rJam len n (acc + 1) ((h_X7_byChance (mR (oR M2 (h_X7_fill (mR M2) x.toNatClampNeg len.toNatClampNeg 100))) len).1) (oR (oR M2 (h_X7_fill (mR M2) x.toNatClampNeg len.toNatClampNeg 100)) ((h_X7_byChance (mR (oR M2 (h_X7_fill (mR M2) x.toNatClampNeg len.toNatClampNeg 100))) len).2))
def h_X7_jam (M : Mo) (len : Int32) (sd : Int64) : Int32 × Mo :=
  if (f_X7_isLength len) = 0 then (0, (h_X7_refused M 1).2) else
  lp_rJam len 81 0 ((h_X7_byChance (mR (oR (oR ((h_X7_refused M 0).2) (h_X7_copyState (mN ((h_X7_refused M 0).2)) (mR ((h_X7_refused M 0).2)) 0 0)) (h_X7_layChance (mR (oR ((h_X7_refused M 0).2) (h_X7_copyState (mN ((h_X7_refused M 0).2)) (mR ((h_X7_refused M 0).2)) 0 0))) sd))) len).1) (oR (oR (oR ((h_X7_refused M 0).2) (h_X7_copyState (mN ((h_X7_refused M 0).2)) (mR ((h_X7_refused M 0).2)) 0 0)) (h_X7_layChance (mR (oR ((h_X7_refused M 0).2) (h_X7_copyState (mN ((h_X7_refused M 0).2)) (mR ((h_X7_refused M 0).2)) 0 0))) sd)) ((h_X7_byChance (mR (oR (oR ((h_X7_refused M 0).2) (h_X7_copyState (mN ((h_X7_refused M 0).2)) (mR ((h_X7_refused M 0).2)) 0 0)) (h_X7_layChance (mR (oR ((h_X7_refused M 0).2) (h_X7_copyState (mN ((h_X7_refused M 0).2)) (mR ((h_X7_refused M 0).2)) 0 0))) sd))) len).2))
set_option maxHeartbeats 4000000 in
set_option maxRecDepth 100000 in
theorem c_X7_jam (l : Launch) (G : GG) (b : Nat) (M : Mo) (len : Int32) (sd : Int64) (hRI : RI (mN M)) : Met l yX7_jam wsX7_jam ({ frames := 3, cells := 0, slots := 0, locals := 70 }) (PcH G [.ref b, .int len, .long sd] (Md G b M)) (QM (some (.int ((h_X7_jam M len sd).1))) (Md G b ((h_X7_jam M len sd).2)) (blk b (b + 8))) 0 0 (blk b (b + 8)) := by
  refine metH (cc := cX7_jam) (maxL := 6) (ret := (some .int)) (by decide) rfl ?_
  intro p e s m below meth cd hx hb hr hml hown hts hlocks hP hO
  have hin7 : ∀ w ∈ u_ws RX7 TX7 12, w ∈ wsX7_jam := by decide +kernel
  have hf_13 := hts (.fieldLink RX7 13 "CurbCarsModel" "now" "[I") (by decide +kernel)
  have hf_16 := hts (.fieldLink RX7 16 "CurbCarsModel" "trial" "[I") (by decide +kernel)
  have hA : ∀ q, (blk b (b + 8)) q → (blk b (b + 8)) q := fun _ h => h
  have hS : va_S (blk b (b + 8)) s.heap s.heap [] := va_S.rf
  have hl := lv_entry ([.ref b, .int len, .long sd]) (n := 6) (Nat.le_of_ble_eq_true rfl)
  rw [lg_entry_eq]
  generalize (lg_sl ([.ref b, .int len, .long sd]) ++ List.replicate (6 - (lg_sl ([.ref b, .int len, .long sd])).length) Slot.unset).toArray = ls at hl ⊢
  have hl : lv_has ls 6 [(0, .ref b), (1, .int len), (2, .long sd)] := hl
  have loop55 : ∀ (n : Nat) (acc : Int32) (x : Int32) (M2 : Mo), 2 ≤ len.toNatClampNeg ∧ len.toNatClampNeg ≤ 8 ∧ len = nI len.toNatClampNeg → plF (mR M2) x len.toNatClampNeg → (∃ r, r ≤ 4 ∧ mR M2 3 = nI r) → fre (mR M2) 80 < n → h_X7_jam M len sd = lp_rJam len n acc x M2 → ∀ (H : Heap) (locs : List Loc) (ls : Array Slot), Md G b M2 H → va_S (blk b (b + 8)) s.heap H locs → lv_has ls 6 [(0, .ref b), (1, .int len), (4, .int acc), (5, .int x)] → W p l e (headSpec wsX7_jam ({ frames := 3, cells := 0, slots := 0, locals := 70 } : Room)).room s m ([.ref b, .int len, .long sd] : List Value).toArray below meth cd H locs 0 0 (MQ below (QM (some (.int ((h_X7_jam M len sd).1))) (Md G b ((h_X7_jam M len sd).2)) (blk b (b + 8))) ([.ref b, .int len, .long sd] : List Value).toArray s 0 0 (blk b (b + 8))) (F0 m 55 ls []) := by
    intro n
    induction n with
    | zero =>
      intro acc x M2 hlen hp h3 hn hR H locs ls hP hS hl
      exact absurd hn (by omega)
    | succ n ih =>
      intro acc x M2 hlen hp h3 hn hR H locs ls hP hS hl
      refine lv_iload hx hb dX7_jam_55 (lv_at hl 3 rfl) ?_
      refine lv_iconst (v := -1) hx hb dX7_jam_57 (by decide) ?_
      refine lv_icmp_eq (tgt := 89) hx hb dX7_jam_58 (by decide) (fun c_1 => ?_) (fun c_1 => ?_)
      · refine lv_iload hx hb dX7_jam_89 (lv_at hl 2 rfl) ?_
        have hE : h_X7_jam M len sd = (acc, M2) := (hR.trans (by rw [lp_rJam, if_pos c_1]))
        have hE2 := snd_of hE
        exact W.iret hx hb hr (fun t ht hW => ⟨by rw [fst_of hE], by rw [ht, hE2]; exact hP, hS.F ht⟩) hS.2.2 dX7_jam_91
      · refine lv_aload_n hx hb dX7_jam_61 rfl (lv_at hl 0 rfl) ?_
        refine va_get (D := G.1) (ci := 5) (v := .ref (b + 3)) (C := RX7) (T := TX7) (N := 12) hx hb hts hin7 hown hO.1 hP 0 rfl rfl 4 (by decide) hf_16 (fun _ h9 => h9) rfl dX7_jam_62 ?_
        refine lv_iload hx hb dX7_jam_65 (lv_at hl 3 rfl) ?_
        refine lv_iload_n hx hb dX7_jam_67 rfl (lv_at hl 1 rfl) ?_
        refine lv_bipush (v := 100) hx hb dX7_jam_68 (by decide) ?_
        refine cl_mv (rS (As := [.ref (b + 3), .int x, .int len, .int 100]) (rest := []) ⟨hx, hb, hml, hown, hts⟩ (c_X7_fill_raw l G (b + 3) (mR M2) x len 100 ⟨(jam_fill hlen hp (by assumption)).1, hlen.2.2⟩) (va_cwS 4 hts gX7_jam_X7_fill rfl rfl rfl (by decide +kernel) ⟨Nat.le_of_ble_eq_true rfl, Nat.le_of_ble_eq_true rfl⟩) (va_P.sub hP [3] rfl) hO rfl hl.1 (Nat.le_of_ble_eq_true rfl) dX7_jam_70 ⟨Nat.le_of_ble_eq_true rfl, Nat.le_of_ble_eq_true rfl⟩) hS (fun q h => hA q (by simp only [one, blk] at *; omega)) (fun H locs hP1 hz hk hS => ?_)
        have hP : Md G b (oR M2 (h_X7_fill (mR M2) x.toNatClampNeg len.toNatClampNeg 100)) H := md_pR (mo_row 3 hP rfl hP1 hk)
        refine lv_iinc (v := acc + 1) (lv' := [(4, .int (acc + 1)), (0, .ref b), (1, .int len), (5, .int x)]) hx hb dX7_jam_73 hl (k := 2) rfl rfl (by decide) rfl (fun ls hl => ?_)
        refine lv_aload_n hx hb dX7_jam_76 rfl (lv_at hl 1 rfl) ?_
        refine va_get (D := G.1) (ci := 5) (v := .ref (b + 3)) (C := RX7) (T := TX7) (N := 12) hx hb hts hin7 hown hO.1 hP 0 rfl rfl 4 (by decide) hf_16 (fun _ h9 => h9) rfl dX7_jam_77 ?_
        refine lv_iload_n hx hb dX7_jam_80 rfl (lv_at hl 2 rfl) ?_
        refine cl_mi (rS (As := [.ref (b + 3), .int len]) (rest := []) ⟨hx, hb, hml, hown, hts⟩ (c_X7_byChance l G (b + 3) (mR (oR M2 (h_X7_fill (mR M2) x.toNatClampNeg len.toNatClampNeg 100))) len) (va_cwS 2 hts gX7_jam_X7_byChance rfl rfl rfl (by decide +kernel) ⟨Nat.le_of_ble_eq_true rfl, Nat.le_of_ble_eq_true rfl⟩) (va_P.sub hP [3] rfl) hO rfl hl.1 (Nat.le_of_ble_eq_true rfl) dX7_jam_81 ⟨Nat.le_of_ble_eq_true rfl, Nat.le_of_ble_eq_true rfl⟩) hS (fun q h => hA q (by simp only [one, blk] at *; omega)) (fun H locs hP1 hz hk hS => ?_)
        have hP : Md G b (oR (oR M2 (h_X7_fill (mR M2) x.toNatClampNeg len.toNatClampNeg 100)) ((h_X7_byChance (mR (oR M2 (h_X7_fill (mR M2) x.toNatClampNeg len.toNatClampNeg 100))) len).2)) H := md_pR (mo_row 3 hP rfl hP1 hk)
        refine lv_istore (lv' := [(5, .int ((h_X7_byChance (mR (oR M2 (h_X7_fill (mR M2) x.toNatClampNeg len.toNatClampNeg 100))) len).1)), (4, .int (acc + 1)), (0, .ref b), (1, .int len)]) hx hb dX7_jam_84 hl (by decide) rfl (fun ls hl => ?_)
        refine lv_goto (tgt := 55) hx hb dX7_jam_86 (by decide) ?_
        have hE_2 : h_X7_jam M len sd = lp_rJam len n (acc + 1) ((h_X7_byChance (mR (oR M2 (h_X7_fill (mR M2) x.toNatClampNeg len.toNatClampNeg 100))) len).1) (oR (oR M2 (h_X7_fill (mR M2) x.toNatClampNeg len.toNatClampNeg 100)) ((h_X7_byChance (mR (oR M2 (h_X7_fill (mR M2) x.toNatClampNeg len.toNatClampNeg 100))) len).2)) := (hR.trans (by rw [lp_rJam, if_neg c_1]))
        exact ih (acc + 1) ((h_X7_byChance (mR (oR M2 (h_X7_fill (mR M2) x.toNatClampNeg len.toNatClampNeg 100))) len).1) (oR (oR M2 (h_X7_fill (mR M2) x.toNatClampNeg len.toNatClampNeg 100)) ((h_X7_byChance (mR (oR M2 (h_X7_fill (mR M2) x.toNatClampNeg len.toNatClampNeg 100))) len).2)) hlen (jam_by hlen (show ∃ r, r ≤ 4 ∧ mR (oR M2 (h_X7_fill (mR M2) x.toNatClampNeg len.toNatClampNeg 100)) 3 = nI r by obtain ⟨r, hr, e⟩ := h3; exact ⟨r, hr, (fill_lo _ _ _ _ (by omega)).trans e⟩)).1 (jam_by hlen (show ∃ r, r ≤ 4 ∧ mR (oR M2 (h_X7_fill (mR M2) x.toNatClampNeg len.toNatClampNeg 100)) 3 = nI r by obtain ⟨r, hr, e⟩ := h3; exact ⟨r, hr, (fill_lo _ _ _ _ (by omega)).trans e⟩)).2.1 (by have h9 := (jam_by hlen (show ∃ r, r ≤ 4 ∧ mR (oR M2 (h_X7_fill (mR M2) x.toNatClampNeg len.toNatClampNeg 100)) 3 = nI r by obtain ⟨r, hr, e⟩ := h3; exact ⟨r, hr, (fill_lo _ _ _ _ (by omega)).trans e⟩)).2.2; have h8 := (jam_fill hlen hp (by assumption)).2; exact Nat.lt_of_lt_of_le (Nat.lt_of_le_of_lt (Nat.le_of_eq h9) h8) (by omega)) hE_2 _ _ _ hP hS (lv_sub hl [2, 3, 1, 0] rfl)
  refine lv_aload_n hx hb dX7_jam_0 rfl (lv_at hl 0 rfl) ?_
  refine lv_iload_n hx hb dX7_jam_1 rfl (lv_at hl 1 rfl) ?_
  refine cl_pi (rS (As := [.int len]) (rest := [.ref b]) ⟨hx, hb, hml, hown, hts⟩ (c_X7_isLength l G len) (va_cwS 1 hts gX7_jam_X7_isLength rfl rfl rfl (by decide +kernel) ⟨Nat.le_of_ble_eq_true rfl, Nat.le_of_ble_eq_true rfl⟩) trivial hO rfl hl.1 (Nat.le_of_ble_eq_true rfl) dX7_jam_2 ⟨Nat.le_of_ble_eq_true rfl, Nat.le_of_ble_eq_true rfl⟩) ?_
  refine lv_if_eq (tgt := 12) hx hb dX7_jam_5 (by decide) (fun c_3 => ?_) (fun c_3 => ?_)
  · refine lv_iconst (v := 1) hx hb dX7_jam_12 (by decide) ?_
    refine cl_mi (rV (As := [.int 1]) (rest := []) ⟨hx, hb, hml, hown, hts⟩ (c_X7_refused l G b M 1) (cwV 1 hts gX7_jam_X7_refused rfl rfl rfl (by decide +kernel) ⟨Nat.le_of_ble_eq_true rfl, Nat.le_of_ble_eq_true rfl⟩) (md_recv hO hP) hP hO rfl hl.1 (Nat.le_of_ble_eq_true rfl) dX7_jam_13 ⟨Nat.le_of_ble_eq_true rfl, Nat.le_of_ble_eq_true rfl⟩) hS hA (fun H locs hP1 hz hk hS => ?_)
    have hP : Md G b ((h_X7_refused M 1).2) H := hP1
    refine lv_if_eq (tgt := 21) hx hb dX7_jam_16 (by decide) (fun c_4 => ?_) (fun c_4 => ?_)
    · exact absurd c_4 (ref_p1 _)
    · refine lv_iconst (v := 0) hx hb dX7_jam_19 (by decide) ?_
      have hE : h_X7_jam M len sd = (0, (h_X7_refused M 1).2) := (by rw [h_X7_jam, if_pos c_3])
      have hE2 := snd_of hE
      exact W.iret hx hb hr (fun t ht hW => ⟨by rw [fst_of hE], by rw [ht, hE2]; exact hP, hS.F ht⟩) hS.2.2 dX7_jam_20
  · refine lv_iconst (v := 0) hx hb dX7_jam_8 (by decide) ?_
    refine lv_goto (tgt := 13) hx hb dX7_jam_9 (by decide) ?_
    refine cl_mi (rV (As := [.int 0]) (rest := []) ⟨hx, hb, hml, hown, hts⟩ (c_X7_refused l G b M 0) (cwV 1 hts gX7_jam_X7_refused rfl rfl rfl (by decide +kernel) ⟨Nat.le_of_ble_eq_true rfl, Nat.le_of_ble_eq_true rfl⟩) (md_recv hO hP) hP hO rfl hl.1 (Nat.le_of_ble_eq_true rfl) dX7_jam_13 ⟨Nat.le_of_ble_eq_true rfl, Nat.le_of_ble_eq_true rfl⟩) hS hA (fun H locs hP1 hz hk hS => ?_)
    have hP : Md G b ((h_X7_refused M 0).2) H := hP1
    refine lv_if_eq (tgt := 21) hx hb dX7_jam_16 (by decide) (fun c_5 => ?_) (fun c_5 => ?_)
    · refine lv_aload_n hx hb dX7_jam_21 rfl (lv_at hl 0 rfl) ?_
      refine va_get (D := G.1) (ci := 5) (v := .ref (b + 2)) (C := RX7) (T := TX7) (N := 12) hx hb hts hin7 hown hO.1 hP 0 rfl rfl 3 (by decide) hf_13 (fun _ h9 => h9) rfl dX7_jam_22 ?_
      refine lv_iconst (v := 0) hx hb dX7_jam_25 (by decide) ?_
      refine lv_aload_n hx hb dX7_jam_26 rfl (lv_at hl 0 rfl) ?_
      refine va_get (D := G.1) (ci := 5) (v := .ref (b + 3)) (C := RX7) (T := TX7) (N := 12) hx hb hts hin7 hown hO.1 hP 0 rfl rfl 4 (by decide) hf_16 (fun _ h9 => h9) rfl dX7_jam_27 ?_
      refine lv_iconst (v := 0) hx hb dX7_jam_30 (by decide) ?_
      refine cl_mv (rS (As := [.ref (b + 2), .int 0, .ref (b + 3), .int 0]) (rest := []) ⟨hx, hb, hml, hown, hts⟩ (c_X7_copyState l G (b + 2) 327 (mN ((h_X7_refused M 0).2)) (b + 3) 327 (mR ((h_X7_refused M 0).2)) 0 0 (by omega) (by omega) (by decide) (by decide) (by omega)) (va_cwS 4 hts gX7_jam_X7_copyState rfl rfl rfl (by decide +kernel) ⟨Nat.le_of_ble_eq_true rfl, Nat.le_of_ble_eq_true rfl⟩) (va_P.sub hP [2, 3] rfl) hO rfl hl.1 (Nat.le_of_ble_eq_true rfl) dX7_jam_31 ⟨Nat.le_of_ble_eq_true rfl, Nat.le_of_ble_eq_true rfl⟩) hS (fun q h => hA q (by simp only [two, blk] at *; omega)) (fun H locs hP1 hz hk hS => ?_)
      have hP : Md G b (oR ((h_X7_refused M 0).2) (h_X7_copyState (mN ((h_X7_refused M 0).2)) (mR ((h_X7_refused M 0).2)) 0 0)) H := md_pR (two_row 2 3 hP (md_D b ((h_X7_refused M 0).2) hA) rfl rfl hP1 hk)
      refine lv_aload_n hx hb dX7_jam_34 rfl (lv_at hl 0 rfl) ?_
      refine va_get (D := G.1) (ci := 5) (v := .ref (b + 3)) (C := RX7) (T := TX7) (N := 12) hx hb hts hin7 hown hO.1 hP 0 rfl rfl 4 (by decide) hf_16 (fun _ h9 => h9) rfl dX7_jam_35 ?_
      refine lv_lload_n hx hb dX7_jam_38 rfl (lv_at hl 2 rfl) ?_
      refine cl_mv (rS (As := [.ref (b + 3), .long sd]) (rest := []) ⟨hx, hb, hml, hown, hts⟩ (c_X7_layChance l G (b + 3) (mR (oR ((h_X7_refused M 0).2) (h_X7_copyState (mN ((h_X7_refused M 0).2)) (mR ((h_X7_refused M 0).2)) 0 0))) sd) (va_cwS 2 hts gX7_jam_X7_layChance rfl rfl rfl (by decide +kernel) ⟨Nat.le_of_ble_eq_true rfl, Nat.le_of_ble_eq_true rfl⟩) (va_P.sub hP [3] rfl) hO rfl hl.1 (Nat.le_of_ble_eq_true rfl) dX7_jam_39 ⟨Nat.le_of_ble_eq_true rfl, Nat.le_of_ble_eq_true rfl⟩) hS (fun q h => hA q (by simp only [one, blk] at *; omega)) (fun H locs hP1 hz hk hS => ?_)
      have hP : Md G b (oR (oR ((h_X7_refused M 0).2) (h_X7_copyState (mN ((h_X7_refused M 0).2)) (mR ((h_X7_refused M 0).2)) 0 0)) (h_X7_layChance (mR (oR ((h_X7_refused M 0).2) (h_X7_copyState (mN ((h_X7_refused M 0).2)) (mR ((h_X7_refused M 0).2)) 0 0))) sd)) H := md_pR (mo_row 3 hP rfl hP1 hk)
      refine lv_iconst (v := 0) hx hb dX7_jam_42 (by decide) ?_
      refine lv_istore (lv' := [(4, .int 0), (0, .ref b), (1, .int len), (2, .long sd)]) hx hb dX7_jam_43 hl (by decide) rfl (fun ls hl => ?_)
      refine lv_aload_n hx hb dX7_jam_45 rfl (lv_at hl 1 rfl) ?_
      refine va_get (D := G.1) (ci := 5) (v := .ref (b + 3)) (C := RX7) (T := TX7) (N := 12) hx hb hts hin7 hown hO.1 hP 0 rfl rfl 4 (by decide) hf_16 (fun _ h9 => h9) rfl dX7_jam_46 ?_
      refine lv_iload_n hx hb dX7_jam_49 rfl (lv_at hl 2 rfl) ?_
      refine cl_mi (rS (As := [.ref (b + 3), .int len]) (rest := []) ⟨hx, hb, hml, hown, hts⟩ (c_X7_byChance l G (b + 3) (mR (oR (oR ((h_X7_refused M 0).2) (h_X7_copyState (mN ((h_X7_refused M 0).2)) (mR ((h_X7_refused M 0).2)) 0 0)) (h_X7_layChance (mR (oR ((h_X7_refused M 0).2) (h_X7_copyState (mN ((h_X7_refused M 0).2)) (mR ((h_X7_refused M 0).2)) 0 0))) sd))) len) (va_cwS 2 hts gX7_jam_X7_byChance rfl rfl rfl (by decide +kernel) ⟨Nat.le_of_ble_eq_true rfl, Nat.le_of_ble_eq_true rfl⟩) (va_P.sub hP [3] rfl) hO rfl hl.1 (Nat.le_of_ble_eq_true rfl) dX7_jam_50 ⟨Nat.le_of_ble_eq_true rfl, Nat.le_of_ble_eq_true rfl⟩) hS (fun q h => hA q (by simp only [one, blk] at *; omega)) (fun H locs hP1 hz hk hS => ?_)
      have hP : Md G b (oR (oR (oR ((h_X7_refused M 0).2) (h_X7_copyState (mN ((h_X7_refused M 0).2)) (mR ((h_X7_refused M 0).2)) 0 0)) (h_X7_layChance (mR (oR ((h_X7_refused M 0).2) (h_X7_copyState (mN ((h_X7_refused M 0).2)) (mR ((h_X7_refused M 0).2)) 0 0))) sd)) ((h_X7_byChance (mR (oR (oR ((h_X7_refused M 0).2) (h_X7_copyState (mN ((h_X7_refused M 0).2)) (mR ((h_X7_refused M 0).2)) 0 0)) (h_X7_layChance (mR (oR ((h_X7_refused M 0).2) (h_X7_copyState (mN ((h_X7_refused M 0).2)) (mR ((h_X7_refused M 0).2)) 0 0))) sd))) len).2)) H := md_pR (mo_row 3 hP rfl hP1 hk)
      refine lv_istore (lv' := [(5, .int ((h_X7_byChance (mR (oR (oR ((h_X7_refused M 0).2) (h_X7_copyState (mN ((h_X7_refused M 0).2)) (mR ((h_X7_refused M 0).2)) 0 0)) (h_X7_layChance (mR (oR ((h_X7_refused M 0).2) (h_X7_copyState (mN ((h_X7_refused M 0).2)) (mR ((h_X7_refused M 0).2)) 0 0))) sd))) len).1)), (4, .int 0), (0, .ref b), (1, .int len), (2, .long sd)]) hx hb dX7_jam_53 hl (by decide) rfl (fun ls hl => ?_)
      have hE_6 : h_X7_jam M len sd = lp_rJam len 81 0 ((h_X7_byChance (mR (oR (oR ((h_X7_refused M 0).2) (h_X7_copyState (mN ((h_X7_refused M 0).2)) (mR ((h_X7_refused M 0).2)) 0 0)) (h_X7_layChance (mR (oR ((h_X7_refused M 0).2) (h_X7_copyState (mN ((h_X7_refused M 0).2)) (mR ((h_X7_refused M 0).2)) 0 0))) sd))) len).1) (oR (oR (oR ((h_X7_refused M 0).2) (h_X7_copyState (mN ((h_X7_refused M 0).2)) (mR ((h_X7_refused M 0).2)) 0 0)) (h_X7_layChance (mR (oR ((h_X7_refused M 0).2) (h_X7_copyState (mN ((h_X7_refused M 0).2)) (mR ((h_X7_refused M 0).2)) 0 0))) sd)) ((h_X7_byChance (mR (oR (oR ((h_X7_refused M 0).2) (h_X7_copyState (mN ((h_X7_refused M 0).2)) (mR ((h_X7_refused M 0).2)) 0 0)) (h_X7_layChance (mR (oR ((h_X7_refused M 0).2) (h_X7_copyState (mN ((h_X7_refused M 0).2)) (mR ((h_X7_refused M 0).2)) 0 0))) sd))) len).2)) := (by rw [h_X7_jam, if_neg c_3])
      exact loop55 81 0 ((h_X7_byChance (mR (oR (oR ((h_X7_refused M 0).2) (h_X7_copyState (mN ((h_X7_refused M 0).2)) (mR ((h_X7_refused M 0).2)) 0 0)) (h_X7_layChance (mR (oR ((h_X7_refused M 0).2) (h_X7_copyState (mN ((h_X7_refused M 0).2)) (mR ((h_X7_refused M 0).2)) 0 0))) sd))) len).1) (oR (oR (oR ((h_X7_refused M 0).2) (h_X7_copyState (mN ((h_X7_refused M 0).2)) (mR ((h_X7_refused M 0).2)) 0 0)) (h_X7_layChance (mR (oR ((h_X7_refused M 0).2) (h_X7_copyState (mN ((h_X7_refused M 0).2)) (mR ((h_X7_refused M 0).2)) 0 0))) sd)) ((h_X7_byChance (mR (oR (oR ((h_X7_refused M 0).2) (h_X7_copyState (mN ((h_X7_refused M 0).2)) (mR ((h_X7_refused M 0).2)) 0 0)) (h_X7_layChance (mR (oR ((h_X7_refused M 0).2) (h_X7_copyState (mN ((h_X7_refused M 0).2)) (mR ((h_X7_refused M 0).2)) 0 0))) sd))) len).2)) (len_2 (by assumption)) (jam_by (len_2 (by assumption)) (jam0 hRI)).1 (jam_by (len_2 (by assumption)) (jam0 hRI)).2.1 (Nat.lt_of_le_of_lt (fre_le _ 80) (by omega)) hE_6 _ _ _ hP hS (lv_sub hl [2, 3, 1, 0] rfl)
    · exact absurd (ref_0 _) c_5
