def sm (f : Nat → Nat) : Nat → Nat
  | 0 => 0
  | n + 1 => sm f n + f n
theorem sm_cong {f f' : Nat → Nat} : ∀ n, (∀ i, i < n → f' i = f i) → sm f' n = sm f n := by
  intro n
  induction n with
  | zero => intro _; rfl
  | succ n ih =>
    intro h
    rw [sm, sm, ih (fun i hi => h i (by omega)), h n (by omega)]
theorem sm_one {f f' : Nat → Nat} {x : Nat} : ∀ n, x < n → (∀ i, i < n → i ≠ x → f' i = f i) → sm f' n + f x = sm f n + f' x := by
  intro n
  induction n with
  | zero => intro h; omega
  | succ n ih =>
    intro hx h
    rw [sm, sm]
    by_cases e : x = n
    · subst e
      rw [sm_cong x (fun i hi => h i (by omega) (by omega))]
      omega
    · rw [h n (by omega) (fun z => e z.symm)]
      have := ih (by omega) (fun i hi hn => h i (by omega) hn)
      omega
theorem sm_mono {f : Nat → Nat} {a : Nat} : ∀ d, sm f a ≤ sm f (a + d) := by
  intro d
  induction d with
  | zero => exact Nat.le_refl _
  | succ d ih =>
    show sm f a ≤ sm f (a + d) + f (a + d)
    omega
theorem sm_skip {f : Nat → Nat} {a : Nat} : ∀ d, (∀ i, a ≤ i → i < a + d → f i = 0) → sm f (a + d) = sm f a := by
  intro d
  induction d with
  | zero => intro _; rfl
  | succ d ih =>
    intro h
    show sm f (a + d) + f (a + d) = sm f a
    rw [ih (fun i h1 h2 => h i h1 (by omega)), h (a + d) (by omega) (by omega)]
    omega
/-- how many fit into the gap that begins at k -/
def cnt (g : Rw) (j r k : Nat) : Nat := if isSt g k then (f_X7_gapCells g k - r) / j else 0
theorem cells_eq {g : Rw} {k e : Nat} (hke : k ≤ e) (he : e ≤ 80) (hf : ∀ i, k ≤ i → i < e → g (7 + i) = -1) (hn : e = 80 ∨ ¬ g (7 + e) = -1) : f_X7_gapCells g k = e - k := by
  have h1 := cells_ge hke he hf
  have h2 := cells_le g (j := k) (by omega)
  rcases hn with rfl | hn
  · omega
  · have := cells_lt (g := g) (j := k) (e := e) hke (by omega) hn
    omega
theorem fits_lp {g : Rw} {j r : Nat} (hj : 1 ≤ j ∧ j ≤ 8) (hr : r ≤ 4) (h3 : g 3 = nI r) : ∀ (n a k : Nat), k ≤ 80 → (k = 80 ∨ isSt g k) → 80 < k + n → lp_rFits g (nI j) n (nI a) k = nI (a + (sm (cnt g j r) 80 - sm (cnt g j r) k)) := by
  intro n
  induction n with
  | zero => intro a k hk hs hn; omega
  | succ n ih =>
    intro a k hk hs hn
    rw [lp_rFits]
    rcases hs with rfl | hs
    · rw [if_pos p80]
      congr 1
      omega
    · obtain ⟨u1, u2, u3⟩ := next_up hs
      have hc := cells_le g (j := k) (by have := hs.1; omega)
      have e1 : sm (cnt g j r) (f_X7_nextGap g k) = sm (cnt g j r) k + cnt g j r k := by
        obtain ⟨d, hd⟩ : ∃ d, f_X7_nextGap g k = (k + 1) + d := ⟨f_X7_nextGap g k - (k + 1), by omega⟩
        have e9 := sm_skip (f := cnt g j r) (a := k + 1) d (fun i h1 h2 => if_neg (nst_next hs (by omega) (by omega)))
        rw [hd, e9]
        rfl
      have e2 : sm (cnt g j r) (f_X7_nextGap g k) ≤ sm (cnt g j r) 80 := by
        have := sm_mono (f := cnt g j r) (a := f_X7_nextGap g k) (80 - f_X7_nextGap g k)
        rwa [show f_X7_nextGap g k + (80 - f_X7_nextGap g k) = 80 by omega] at this
      have ec : cnt g j r k = (f_X7_gapCells g k - r) / j := if_pos hs
      rw [if_neg (s80 hs.1), h3]
      by_cases c : nI (f_X7_gapCells g k) - nI r ≤ 0
      · rw [if_pos c, Int32.add_zero, ih a _ u2 u3 (by omega)]
        have cz : f_X7_gapCells g k - r = 0 := by
          rw [Int32.le_iff_toInt_le, pk_sub_toInt (by omega) (by omega), show (0 : Int32).toInt = 0 by decide] at c
          omega
        rw [cz, Nat.zero_div] at ec
        congr 1
        omega
      · have cz : r < f_X7_gapCells g k := by
          rw [Int32.le_iff_toInt_le, pk_sub_toInt (by omega) (by omega), show (0 : Int32).toInt = 0 by decide] at c
          omega
        rw [if_neg c, pk_sub (by omega), pk_div (by omega) (by omega) (by omega), nI_add, ih _ _ u2 u3 (by omega)]
        congr 1
        omega
theorem fits_sm {g : Rw} {j r : Nat} (hj : 1 ≤ j ∧ j ≤ 8) (hr : r ≤ 4) (h3 : g 3 = nI r) : f_X7_fitsIn g (nI j) = nI (sm (cnt g j r) 80) := by
  have h := first_up (g := g)
  have e := fits_lp hj hr h3 81 0 _ h.1 h.2 (by omega)
  have e0 : sm (cnt g j r) (f_X7_gapFrom g 0) = 0 := by
    have := sm_skip (f := cnt g j r) (a := 0) (f_X7_gapFrom g 0) (fun i h1 h2 => if_neg (nst_first (by omega)))
    rw [Nat.zero_add] at this
    exact this
  rw [f_X7_fitsIn, show (0 : Int32) = nI 0 from rfl, e, e0, Nat.zero_add, Nat.sub_zero]
/-- the lowest gap that is big enough -/
theorem low_rule {g : Rw} {j r : Nat} (hj : 1 ≤ j ∧ j ≤ 8) (hr : r ≤ 4) (h3 : g 3 = nI r) (h2 : ¬ g 2 = 1) : ∀ (n k : Nat), k ≤ 80 → (k = 80 ∨ isSt g k) → 80 < k + n → (lp_rRule g (nI j) n (-1) k = -1 ∧ ∀ i, k ≤ i → isSt g i → f_X7_gapCells g i < j + r) ∨ ∃ x, lp_rRule g (nI j) n (-1) k = nI x ∧ isSt g x ∧ j + r ≤ f_X7_gapCells g x := by
  intro n
  induction n with
  | zero => intro k hk hs hn; omega
  | succ n ih =>
    intro k hk hs hn
    rw [lp_rRule]
    rcases hs with rfl | hs
    · rw [if_pos p80]
      exact Or.inl ⟨rfl, fun i hi hs => by have := hs.1; omega⟩
    · obtain ⟨u1, u2, u3⟩ := next_up hs
      have hc := cells_le g (j := k) (by have := hs.1; omega)
      rw [if_neg (s80 hs.1), h3, nI_add]
      by_cases c : nI (f_X7_gapCells g k) < nI (j + r)
      · have c' := (nI_ltI (by omega) (by omega)).mp c
        rw [if_pos c, if_pos rfl]
        rcases ih _ u2 u3 (by omega) with ⟨a, b⟩ | q
        · refine Or.inl ⟨a, fun i hi hs2 => ?_⟩
          by_cases e : i = k
          · rw [e]; exact c'
          · rcases Nat.lt_or_ge i (f_X7_nextGap g k) with z | z
            · exact absurd hs2 (nst_next hs (by omega) z)
            · exact b i z hs2
        · exact Or.inr q
      · rw [if_neg c, if_neg (show ¬ (1 : Int32) = 0 by decide), if_pos rfl, rRule_keep h2 _ _ _ (nI_m1 (by have := hs.1; omega))]
        refine Or.inr ⟨k, rfl, hs, ?_⟩
        rcases Nat.lt_or_ge (f_X7_gapCells g k) (j + r) with z | z
        · exact absurd ((nI_ltI (by omega) (by omega)).mpr z) c
        · exact z
theorem cnt_fill {g : Rw} {j r x : Nat} (hj : 1 ≤ j ∧ j ≤ 8) (hs : isSt g x) (hc : j + r ≤ f_X7_gapCells g x) : sm (cnt (h_X7_fill g x j 100) j r) 80 + 1 = sm (cnt g j r) 80 := by
  have hx := hs.1
  have hc80 := cells_le g (j := x) (by omega)
  have hxj : x + j ≤ 80 := by omega
  have fr : ∀ i, x ≤ i → i < x + f_X7_gapCells g x → g (7 + i) = -1 := fun i h1 h2 => cells_free g (by omega) h1 h2
  have cl : ∀ i, h_X7_fill g x j 100 (7 + i) = if x ≤ i ∧ i < x + j then 100 else g (7 + i) := fun i => by
    rw [fill_at g _ hxj]
    by_cases z : x ≤ i ∧ i < x + j
    · rw [if_pos z, if_pos (by omega)]
    · rw [if_neg z, if_neg (by omega)]
  have nin : ∀ i, x ≤ i → i < x + j → ¬ h_X7_fill g x j 100 (7 + i) = -1 := fun i h1 h2 => by
    rw [cl, if_pos ⟨h1, h2⟩]; decide
  have out : ∀ i, ¬ (x ≤ i ∧ i < x + j) → h_X7_fill g x j 100 (7 + i) = g (7 + i) := fun i h => by rw [cl, if_neg h]
  -- the gap itself is over
  have c1 : cnt (h_X7_fill g x j 100) j r x = 0 := if_neg fun z => nin x (Nat.le_refl _) (by omega) z.2.1
  have c0 : cnt g j r x = (f_X7_gapCells g x - r) / j := if_pos hs
  -- others are as before
  have same : ∀ i, i < 80 → i ≠ x → i ≠ x + j → cnt (h_X7_fill g x j 100) j r i = cnt g j r i := fun i hi h1 h2 => by
    by_cases z : isSt g i
    · have hni : ¬ (x ≤ i ∧ i < x + j) := fun w => by
        rcases z.2.2 with y | y
        · omega
        · exact y (fr (i - 1) (by omega) (by omega))
      have z' : isSt (h_X7_fill g x j 100) i := by
        refine ⟨hi, by rw [out i hni]; exact z.2.1, ?_⟩
        rcases z.2.2 with y | y
        · exact Or.inl y
        · refine Or.inr fun w => y ?_
          by_cases v : x ≤ i - 1 ∧ i - 1 < x + j
          · exact absurd w (nin _ v.1 v.2)
          · rwa [out _ v] at w
      have hcc : f_X7_gapCells (h_X7_fill g x j 100) i = f_X7_gapCells g i := by
        have hle := cells_le g (j := i) (by omega)
        have hdis : ∀ k, i ≤ k → k < i + f_X7_gapCells g i → ¬ (x ≤ k ∧ k < x + j) := fun k k1 k2 v => by
          rcases Nat.lt_or_ge i x with w | w
          · rcases hs.2.2 with y | y
            · omega
            · have := cells_lt (g := g) (j := i) (e := x - 1) (by omega) (by omega) y
              omega
          · omega
        have := cells_eq (g := h_X7_fill g x j 100) (k := i) (e := i + f_X7_gapCells g i) (by omega) hle (fun k k1 k2 => by rw [out k (hdis k k1 k2)]; exact cells_free g (by omega) k1 k2) (by
          rcases Nat.lt_or_ge (i + f_X7_gapCells g i) 80 with w | w
          · refine Or.inr fun v => ?_
            by_cases u : x ≤ i + f_X7_gapCells g i ∧ i + f_X7_gapCells g i < x + j
            · exact nin _ u.1 u.2 v
            · rw [out _ u] at v
              exact cells_max g (by omega) w v
          · exact Or.inl (by omega))
        omega
      rw [cnt, cnt, if_pos z, if_pos z', hcc]
    · have z' : ¬ isSt (h_X7_fill g x j 100) i := fun w => by
        apply z
        have hni : ¬ (x ≤ i ∧ i < x + j) := fun v => nin i v.1 v.2 w.2.1
        have w1 := w.2.1
        rw [out i hni] at w1
        refine ⟨hi, w1, ?_⟩
        rcases w.2.2 with y | y
        · exact Or.inl y
        · refine Or.inr fun v => ?_
          by_cases u : x ≤ i - 1 ∧ i - 1 < x + j
          · omega
          · rw [out _ u] at y
            exact y v
      rw [cnt, cnt, if_neg z, if_neg z']
  have n0 : ¬ isSt g (x + j) := fun z => by
    rcases z.2.2 with y | y
    · omega
    · exact y (fr (x + j - 1) (by omega) (by omega))
  have c2 : cnt g j r (x + j) = 0 := if_neg n0
  have ediv : (f_X7_gapCells g x - r) / j = (f_X7_gapCells g x - j - r) / j + 1 := by
    rw [show f_X7_gapCells g x - r = (f_X7_gapCells g x - j - r) + j by omega, Nat.add_div_right _ (by omega)]
  by_cases hy : x + j < 80
  · have c3 : cnt (h_X7_fill g x j 100) j r (x + j) = (f_X7_gapCells g x - j - r) / j := by
      by_cases hb : j < f_X7_gapCells g x
      · have st : isSt (h_X7_fill g x j 100) (x + j) := ⟨hy, by rw [out _ (by omega)]; exact fr _ (by omega) (by omega), Or.inr (nin (x + j - 1) (by omega) (by omega))⟩
        have hcc := cells_eq (g := h_X7_fill g x j 100) (k := x + j) (e := x + f_X7_gapCells g x) (by omega) hc80 (fun k k1 k2 => by rw [out k (by omega)]; exact fr k (by omega) k2) (by
          rcases Nat.lt_or_ge (x + f_X7_gapCells g x) 80 with w | w
          · refine Or.inr fun v => ?_
            rw [out _ (by omega)] at v
            exact cells_max g (by omega) w v
          · exact Or.inl (by omega))
        rw [cnt, if_pos st, hcc]
        congr 1
        omega
      · have e : f_X7_gapCells g x = j := by omega
        have ns : ¬ isSt (h_X7_fill g x j 100) (x + j) := fun z => by
          have z1 := z.2.1
          rw [out _ (by omega)] at z1
          have := cells_max g (j := x) (by omega) (by omega)
          rw [e] at this
          exact this z1
        rw [cnt, if_neg ns, e, show j - j - r = 0 by omega, Nat.zero_div]
    -- two places change
    have s1 := sm_one (f := cnt g j r) (f' := fun i => if i = x then 0 else cnt g j r i) (x := x) 80 hx (fun i _ hn => if_neg hn)
    have s2 := sm_one (f := fun i => if i = x then 0 else cnt g j r i) (f' := cnt (h_X7_fill g x j 100) j r) (x := x + j) 80 hy (fun i hi hn => by
      by_cases e : i = x
      · rw [e, if_pos rfl, c1]
      · rw [if_neg e]; exact same i hi e hn)
    rw [if_pos rfl] at s1
    rw [if_neg (show ¬ x + j = x by omega), c2, c3] at s2
    omega
  · have s1 := sm_one (f := cnt g j r) (f' := cnt (h_X7_fill g x j 100) j r) (x := x) 80 hx (fun i hi hn => same i hi hn (by omega))
    have : f_X7_gapCells g x - j - r = 0 := by omega
    rw [this, Nat.zero_div] at ediv
    omega
theorem fill_lp {j r : Nat} (hj : 1 ≤ j ∧ j ≤ 8) (hr : r ≤ 4) : ∀ (n k : Nat) (S : St) (g : Rw), RelC S g → sU S = 0 → ¬ g 2 = 1 → g 3 = nI r → fre g 80 + k ≤ 80 → k + n = 81 → (lp_fill (nI j) n k (f_X4_chosenPlace S (nI j)) S).1 = nI (k + sm (cnt g j r) 80) := by
  intro n
  induction n with
  | zero => intro k S g h hu h2 h3 hf hn; have := fre_le g 80; omega
  | succ n ih =>
    intro k S g h hu h2 h3 hf hn
    obtain ⟨q3, q5, qc, qg, -⟩ := h
    have ep : f_X4_chosenPlace S (nI j) = f_X7_byRule g (nI j) := by
      rw [f_X4_chosenPlace, hu, if_neg (by decide), if_neg (by decide)]
      exact lowest_eq hj hr h3 q3 h2 qg
    have fu := first_up (g := g)
    have lr := low_rule hj hr h3 h2 81 _ fu.1 fu.2 (by omega)
    rw [ep, lp_fill]
    rcases lr with ⟨a, b⟩ | ⟨x, a, hs, hc⟩
    · rw [if_pos (show f_X7_byRule g (nI j) = -1 from a)]
      have z : sm (cnt g j r) 80 = 0 := by
        have := sm_skip (f := cnt g j r) (a := 0) 80 (fun i _ hi => by
          rw [cnt]
          by_cases e : isSt g i
          · rw [if_pos e]
            have h1 : f_X7_gapFrom g 0 ≤ i := by
              rcases Nat.lt_or_ge i (f_X7_gapFrom g 0) with y | y
              · exact absurd e (nst_first y)
              · exact y
            have := b i h1 e
            exact Nat.div_eq_of_lt (by omega)
          · rw [if_neg e])
        exact this
      rw [z]
      rfl
    · have a' : f_X7_byRule g (nI j) = nI x := a
      have hx := hs.1
      have hc80 := cells_le g (j := x) (by omega)
      have hfx : g (7 + x) = -1 := hs.2.1
      have hk : k < 80 := by
        have := fre_pos hfx 80 hx
        omega
      rw [a', if_neg (nI_m1 (by omega)), if_neg (s80 hk)]
      have eU : h_X4_useChance S = S := by rw [h_X4_useChance, hu, if_neg (by decide)]
      have h' : RelC S g := ⟨q3, q5, qc, qg, r, hr, h3⟩
      have h2' := h'.occ (a := x) (j := j) 100 (by omega)
      rw [eU]
      have lo : ∀ i, i < 7 → h_X7_fill g x j 100 i = g i := fun i hi => fill_lo _ _ _ _ hi
      have hf2 : fre (h_X7_fill g x j 100) 80 < fre g 80 := by
        refine fre_lt (x := x) hfx ?_ 80 hx (fun i hi z => ?_)
        · rw [fill_at _ _ (by omega), if_pos (by omega)]; decide
        · rw [fill_at _ _ (by omega)] at z
          by_cases e : 7 + x ≤ 7 + i ∧ 7 + i < 7 + x + j
          · rw [if_pos e] at z; exact absurd z (by decide)
          · rw [if_neg e] at z; exact z
      have := ih (k + 1) _ _ h2'.1 (h2'.2.trans hu) (by rw [lo 2 (by omega)]; exact h2) (by rw [lo 3 (by omega)]; exact h3) (by omega) (by omega)
      rw [this]
      have := cnt_fill (r := r) hj hs hc
      congr 1
      omega
theorem o_fits {X : Cx} {M : Mo} (len way : Int32) (h : RelX X M) : OpOk RelX "java/lang/IllegalArgumentException" (h_X6_fits X len way) X (h_X7_fits M len way) := by
  rw [h_X7_fits]
  by_cases c1 : f_X7_isLength len = 0
  · rw [if_pos c1, refused_2]
    exact ok_l (E := "java/lang/IllegalArgumentException") (by rw [h_X6_fits, if_pos ((rq_len len).mpr c1)]) 1 (if_pos rfl) rfl (h.oA 1)
  · have d1 : ¬ f_X6_requireLength len = 0 := fun z => c1 ((rq_len len).mp z)
    rw [if_neg c1]
    by_cases c2 : f_X7_in way.toInt64 0 1 = 0
    · rw [if_pos c2, refused_2]
      exact ok_l (E := "java/lang/IllegalArgumentException") (by rw [h_X6_fits, if_neg d1, if_pos ((rq_01 way).mpr c2)]) 1 (if_pos rfl) rfl (h.oA 1)
    · have d2 : ¬ f_X6_requireZeroOrOne way = 0 := fun z => c2 ((rq_01 way).mp z)
      rw [if_neg c2, refused_2]
      obtain ⟨j, j2, j8, rfl⟩ := len_2e c1
      obtain ⟨r, hr, er⟩ := h.nw.2.ri.2.1
      obtain ⟨r1, r2, r3, r4⟩ := h.nw.1
      by_cases c3 : way = 1
      · exact ok_r (r := f_X4_fittingByGaps (xN X) (nI j)) (X1 := X) (by rw [h_X6_fits, if_neg d1, if_neg d2, if_pos c3]) rfl (h.oA 0) (fit_eq ⟨by omega, j8⟩ hr er r1.2.2.2.1.symm r4)
      · have e3 : upd (mN M) 2 0 3 = nI r := (pk_un (by omega)).trans er
        have sc : SameC (mN M) (upd (mN M) 2 0) := fun i h7 h8 => pk_un (by omega)
        have rc : RelC (wU (xN X) 0) (upd (mN M) 2 0) := ⟨(pk_un (by omega) : upd (mN M) 2 0 3 = mN M 3) ▸ r1.2.2.2.1.symm, (chance_cong (pk_un (by omega)) (pk_un (by omega))).trans r1.2.2.2.2.2, fun y hy => (pk_un (by omega)).trans (r2 y hy), GapOk.cong sc r4, r, hr, e3⟩
        have q := fill_lp (j := j) ⟨by omega, j8⟩ hr 81 0 _ _ rc rfl (by rw [pk_us]; decide) e3 (by have := fre_le (upd (mN M) 2 0) 80; omega) (by omega)
        rw [Nat.zero_add, sm_cong (f := cnt (mN M) j r) 80 (fun i hi => by
          rw [cnt, cnt, cells_cong sc (by omega)]
          by_cases e : isSt (mN M) i
          · rw [if_pos e, if_pos ((isSt_cong sc i).mpr e)]
          · rw [if_neg e, if_neg (fun z => e ((isSt_cong sc i).mp z))])] at q
        refine ok_r (r := (h_X4_fillWith (wU (xN X) 0) (nI j)).1) (X1 := yR (yR (yR X (xN X)) (wU (xN X) 0)) (h_X4_fillWith (wU (xN X) 0) (nI j)).2) (by rw [h_X6_fits, if_neg d1, if_neg d2, if_neg c3]; rfl) rfl ((((h.oA 0).yR _).yR _).yR _) ?_
        rw [h_X4_fillWith]
        exact q.trans (fits_sm ⟨by omega, j8⟩ hr er).symm
