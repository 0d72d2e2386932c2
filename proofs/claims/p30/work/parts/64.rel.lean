theorem cells_ge {g : Rw} {j e : Nat} (hje : j ≤ e) (he : e ≤ 80) (h : ∀ i, j ≤ i → i < e → g (7 + i) = -1) : e ≤ j + f_X7_gapCells g j := by
  rcases Nat.lt_or_ge (j + f_X7_gapCells g j) e with z | z
  · exact absurd (h _ (by omega) z) (cells_max g (by omega) (by omega))
  · exact z
theorem cells_lt {g : Rw} {j e : Nat} (hje : j ≤ e) (hj : j ≤ 80) (h : ¬ g (7 + e) = -1) : j + f_X7_gapCells g j ≤ e := by
  rcases Nat.lt_or_ge e (j + f_X7_gapCells g j) with z | z
  · exact absurd (cells_free g hj hje z) h
  · exact z
theorem get_n {n i : Nat} (f : Rw) (hi : i < n) (hn : n < 2 ^ 31) : f_X6_get n f (nI i) = f i := by
  rw [f_X6_get, if_neg (nI_pos (by omega)), if_pos (nI_lt hi hn), nI_clamp (by omega)]
theorem put_n {n i : Nat} (f : Rw) (v : Int32) (hi : i < n) (hn : n < 2 ^ 31) : h_X6_put n f (nI i) v = upd f i v := by
  rw [h_X6_put, if_neg (nI_pos (by omega)), if_pos (nI_lt hi hn), nI_clamp (by omega)]
/-- what findGaps has at cell k -/
def FGI (g : Rw) (k a : Nat) (G : Rw) : Prop := a ≤ k ∧ (∀ i, a ≤ i → i < k → g (7 + i) = -1) ∧ (a = 0 ∨ ¬ g (7 + (a - 1)) = -1) ∧ ∀ i, i < k → (isSt g i → G i = nI (min (f_X7_gapCells g i) (k - i))) ∧ (¬ isSt g i → G i = 0)
theorem fg_free {g : Rw} {k a : Nat} {G : Rw} (h : FGI g k a G) (hk : k < 80) (hf : g (7 + k) = -1) : FGI g (k + 1) a (upd (upd G k 0) a (upd G k 0 a + 1)) := by
  obtain ⟨h1, h2, h3, h4⟩ := h
  have h2' : ∀ i, a ≤ i → i < k + 1 → g (7 + i) = -1 := fun i x y => by
    by_cases e : i = k
    · rw [e]; exact hf
    · exact h2 i x (by omega)
  have hge := cells_ge (g := g) (j := a) (e := k + 1) (by omega) (by omega) h2'
  have hst : isSt g a := ⟨by omega, h2' a (Nat.le_refl _) (by omega), h3⟩
  refine ⟨by omega, h2', h3, fun i hi => ?_⟩
  by_cases ea : i = a
  · subst ea
    refine ⟨fun _ => ?_, fun z => absurd hst z⟩
    rw [pk_us]
    by_cases ek : i = k
    · subst ek
      rw [pk_us, show (0 : Int32) + 1 = nI 1 from rfl]
      congr 1
      omega
    · rw [pk_un ek, (h4 i (by omega)).1 hst, nI_1]
      congr 1
      omega
  · rw [pk_un ea]
    by_cases ek : i = k
    · subst ek
      rw [pk_us]
      refine ⟨fun z => ?_, fun _ => rfl⟩
      rcases z.2.2 with y | y
      · omega
      · exact absurd (h2 (i - 1) (by omega) (by omega)) y
    · rw [pk_un ek]
      refine ⟨fun z => ?_, (h4 i (by omega)).2⟩
      rw [(h4 i (by omega)).1 z]
      by_cases ia : i < a
      · rcases h3 with y | y
        · omega
        · have := cells_lt (g := g) (j := i) (e := a - 1) (by omega) (by omega) y
          congr 1
          omega
      · rcases z.2.2 with y | y
        · omega
        · exact absurd (h2 (i - 1) (by omega) (by omega)) y
theorem fg_full {g : Rw} {k a : Nat} {G : Rw} (h : FGI g k a G) (hk : k < 80) (hf : ¬ g (7 + k) = -1) : FGI g (k + 1) (k + 1) (upd G k 0) := by
  obtain ⟨h1, h2, h3, h4⟩ := h
  refine ⟨Nat.le_refl _, fun i x y => by omega, Or.inr (by rw [show k + 1 - 1 = k by omega]; exact hf), fun i hi => ?_⟩
  by_cases ek : i = k
  · subst ek
    rw [pk_us]
    exact ⟨fun z => absurd z.2.1 hf, fun _ => rfl⟩
  · rw [pk_un ek]
    refine ⟨fun z => ?_, (h4 i (by omega)).2⟩
    rw [(h4 i (by omega)).1 z]
    have := cells_lt (g := g) (j := i) (e := k) (by omega) (by omega) hf
    congr 1
    omega
theorem findGaps_lp {g : Rw} (S : St) (hc : ∀ x, x < 80 → g (7 + x) = sC S x) : ∀ (n k a : Nat) (S2 : St), k ≤ 80 → k + n = 81 → S2 = wG S (sG S2) → FGI g k a (sG S2) → lp_findGaps n k (nI a) S2 = wG S (sG (lp_findGaps n k (nI a) S2)) ∧ ∃ b, FGI g 80 b (sG (lp_findGaps n k (nI a) S2)) := by
  intro n
  induction n with
  | zero => intro k a S2 h1 h2; omega
  | succ n ih =>
    intro k a S2 h1 h2 h3 h4
    rw [lp_findGaps]
    by_cases c1 : (80 : Int32) ≤ nI k
    · rw [if_pos c1]
      have : k = 80 := by
        have := (k80 h1).mp c1
        omega
      subst this
      exact ⟨h3, a, h4⟩
    · have hlt : k < 80 := kN (B := 80) c1 (by omega) (by omega)
      have ha := h4.1
      have e1 : sC (wG S2 (upd (sG S2) k 0)) k = g (7 + k) := by
        rw [hc k hlt, h3]
        rfl
      rw [if_neg c1, if_neg c1, e1]
      by_cases c2 : g (7 + k) = -1
      · rw [if_pos c2, if_neg (nI_pos (by omega)), if_neg (s80 (by omega)), nI_clamp (by omega)]
        refine ih (k + 1) a _ (by omega) (by omega) ?_ (fg_free h4 hlt c2)
        rw [h3]
        rfl
      · rw [if_neg c2]
        refine ih (k + 1) (k + 1) _ (by omega) (by omega) ?_ (fg_full h4 hlt c2)
        rw [h3]
        rfl
theorem findGaps_ok (S : St) {g : Rw} (hc : ∀ x, x < 80 → g (7 + x) = sC S x) : h_X4_findGaps S = wG S (sG (h_X4_findGaps S)) ∧ GapOk (h_X4_findGaps S) g := by
  have h := findGaps_lp S hc 81 0 0 S (by omega) (by omega) rfl ⟨Nat.le_refl _, fun i x y => by omega, Or.inl rfl, fun i hi => by omega⟩
  refine ⟨h.1, fun k hk => ?_⟩
  obtain ⟨b, -, -, -, h4⟩ := h.2
  refine ⟨fun z => ?_, (h4 k hk).2⟩
  rw [show sG (h_X4_findGaps S) k = nI (min (f_X7_gapCells g k) (80 - k)) from (h4 k hk).1 z]
  have := cells_le g (j := k) (by omega)
  congr 1
  omega
/-- cells a .. a + j - 1 marked -/
def mkC (f : Rw) (a j : Nat) (mk : Int32) : Rw := fun i => if a ≤ i ∧ i < a + j then mk else f i
theorem occ_lp {a j : Nat} (mk : Int32) (h : a + j ≤ 80) : ∀ (n k : Nat) (S2 : St), k ≤ j → k + n = j + 1 → lp_occupy (nI a) (nI j) mk n k S2 = h_X4_findGaps (wC S2 (mkC (sC S2) (a + k) (j - k) mk)) := by
  intro n
  induction n with
  | zero => intro k S2 h1 h2; omega
  | succ n ih =>
    intro k S2 h1 h2
    rw [lp_occupy]
    by_cases c : nI j ≤ nI k
    · rw [if_pos c]
      rw [nI_leI (by omega) (by omega)] at c
      have e : mkC (sC S2) (a + k) (j - k) mk = sC S2 := by
        funext i
        exact if_neg (by omega)
      rw [e]
      rfl
    · rw [if_neg c]
      rw [nI_leI (by omega) (by omega)] at c
      rw [ih (k + 1) _ (by omega) (by omega), nI_add, pC, put_n _ _ (by omega) (by omega)]
      congr 1
      show wC S2 _ = wC S2 _
      congr 1
      funext i
      unfold mkC
      by_cases c1 : i = a + k
      · subst c1
        rw [if_neg (by omega), if_pos ⟨by omega, by omega⟩]
        exact pk_us
      · by_cases c2 : a + (k + 1) ≤ i ∧ i < a + (k + 1) + (j - (k + 1))
        · rw [if_pos c2, if_pos ⟨by omega, by omega⟩]
        · rw [if_neg c2, if_neg (by omega)]
          exact pk_un c1
theorem occ_eq (S : St) {a j : Nat} (mk : Int32) (h : a + j ≤ 80) : h_X4_occupy S (nI a) (nI j) mk = h_X4_findGaps (wC S (mkC (sC S) a j mk)) := by
  rw [h_X4_occupy, nI_clamp (by omega), occ_lp mk h _ 0 S (Nat.zero_le _) (by omega)]
  rfl
/-- the class's street and the reference's row -/
def Rel (S : St) (g : Rw) : Prop := (g 0 = sN S ∧ g 1 = sM S ∧ g 2 = sU S ∧ g 3 = sO S ∧ g 4 = sE S ∧ f_X7_chance g = sH S) ∧ (∀ x, x < 80 → g (7 + x) = sC S x) ∧ (∀ c, c < gm g → f_X7_of g c 0 = sL S c ∧ f_X7_of g c 1 = sY S c ∧ f_X7_of g c 2 = sT S c ∧ f_X7_of g c 3 = sP S c ∧ f_X7_of g c 4 = sK S c ∧ f_X7_of g c 5 = sR S c) ∧ GapOk S g
theorem chance_cong {g g' : Rw} (h5 : g' 5 = g 5) (h6 : g' 6 = g 6) : f_X7_chance g' = f_X7_chance g := by rw [f_X7_chance, h5, h6, f_X7_chance]
theorem gm_cong {g g' : Rw} (h : g' 0 = g 0) : gm g' = gm g := by rw [gm, h, gm]
/-- cells marked on both sides -/
theorem Rel.occ {S : St} {g : Rw} (h : Rel S g) {a j : Nat} (mk : Int32) (haj : a + j ≤ 80) : Rel (h_X4_occupy S (nI a) (nI j) mk) (h_X7_fill g a j mk) := by
  obtain ⟨⟨h0, h1, h2, h3, h4, h5⟩, hc, hr, -⟩ := h
  have hc' : ∀ x, x < 80 → h_X7_fill g a j mk (7 + x) = sC (wC S (mkC (sC S) a j mk)) x := fun x hx => by
    rw [fill_at g mk haj]
    show _ = mkC (sC S) a j mk x
    unfold mkC
    by_cases c : a ≤ x ∧ x < a + j
    · rw [if_pos ⟨by omega, by omega⟩, if_pos c]
    · rw [if_neg (by omega), if_neg c]
      exact hc x hx
  have f := findGaps_ok (wC S (mkC (sC S) a j mk)) hc'
  rw [occ_eq S mk haj]
  refine ⟨?_, ?_, ?_, f.2⟩
  · rw [f.1, chance_cong (fill_lo g a j mk (by omega)) (fill_lo g a j mk (by omega)), fill_lo _ _ _ _ (by omega), fill_lo _ _ _ _ (by omega), fill_lo _ _ _ _ (by omega), fill_lo _ _ _ _ (by omega), fill_lo _ _ _ _ (by omega)]
    exact ⟨h0, h1, h2, h3, h4, h5⟩
  · rw [f.1]
    exact hc'
  · intro c hcm
    rw [gm_cong (fill_lo g a j mk (by omega))] at hcm
    rw [f.1, of_fill g mk haj, of_fill g mk haj, of_fill g mk haj, of_fill g mk haj, of_fill g mk haj, of_fill g mk haj]
    exact hr c hcm
