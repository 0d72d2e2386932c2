/-! numbers of a row, and what the class's questions answer in them -/
def nwY (g : Rw) (c : Nat) : Nat := (f_X7_of g c 1).toNatClampNeg
def nwT (g : Rw) (c : Nat) : Nat := (f_X7_of g c 2).toNatClampNeg
def nwK (g : Rw) (c : Nat) : Nat := (f_X7_of g c 4).toNatClampNeg
def nwR (g : Rw) (c : Nat) : Nat := (f_X7_of g c 5).toNatClampNeg
def cO (g : Rw) : Nat := (g 3).toNatClampNeg
def cE (g : Rw) : Nat := (g 4).toNatClampNeg
def isT (g : Rw) (s c : Nat) : Nat := if nwT g c = s then 1 else 0
def isC (g : Rw) (mk : Int32) (x : Nat) : Nat := if g (7 + x) = mk then 1 else 0
def wy (g : Rw) (j : Nat) : Nat := if f_X7_longest g < j then 1 else if f_X7_longest g < j + cO g then 2 else 0
def nf (g : Rw) (j : Nat) : Nat := sm (cnt g j (cO g)) 80
theorem Inv.car {g : Rw} (h : Inv g) {c : Nat} (hc : c < gm g) : (f_X7_of g c 1 = nI (nwY g c) ∧ 1 ≤ nwY g c ∧ nwY g c ≤ 99) ∧ (f_X7_of g c 2 = nI (nwT g c) ∧ nwT g c < 5) ∧ (f_X7_of g c 4 = nI (nwK g c) ∧ nwK g c ≤ nwY g c) ∧ (f_X7_of g c 5 = nI (nwR g c) ∧ nwR g c ≤ 30) ∧ (nwT g c = 0 → nwK g c < nwY g c) ∧ (nwT g c ≠ 0 → f_X7_of g c 3 = -1) ∧ (nwT g c = 3 → 1 ≤ nwR g c ∧ nwK g c = 0) ∧ (f_X7_of g c 2 = 0 ↔ nwT g c = 0) := by
  obtain ⟨⟨t, t1, t2, et, h0⟩, -, ⟨s, s5, es⟩, hp, ⟨t', u, hut, ht', et', eu⟩, ⟨r, r30, er, -, r3⟩, h3⟩ := h.rk c hc
  have e1 : nwY g c = t := by rw [nwY, et, nI_clamp (by omega)]
  have e2 : nwT g c = s := by rw [nwT, es, nI_clamp (by omega)]
  have e4 : nwK g c = u := by rw [nwK, eu, nI_clamp (by omega)]
  have e5 : nwR g c = r := by rw [nwR, er, nI_clamp (by omega)]
  have ett : t' = t := nI_inj (by omega) (by omega) (et'.symm.trans et)
  have z : f_X7_of g c 2 = 0 ↔ nwT g c = 0 := by
    rw [e2, es]
    exact ⟨fun z => nI_inj (b := 0) (by omega) (by omega) z, fun z => by rw [z]; rfl⟩
  have z3 : nwT g c = 3 → f_X7_of g c 2 = 3 := fun w => by rw [es, ← e2, w]; rfl
  refine ⟨⟨by rw [e1]; exact et, by omega, by omega⟩, ⟨by rw [e2]; exact es, by omega⟩, ⟨by rw [e4]; exact eu, by omega⟩, ⟨by rw [e5]; exact er, by omega⟩, fun w => ?_, fun w => hp (fun q => w (z.mp q)), fun w => ⟨by have := r3 (z3 w); omega, ?_⟩, z⟩
  · obtain ⟨u', hu', eu'⟩ := h0 (z.mpr w)
    have : u' = u := nI_inj (by omega) (by omega) (eu'.symm.trans eu)
    omega
  · have h4 := h3 (z3 w)
    rw [eu] at h4
    have := nI_inj (b := 0) (by omega) (by omega) h4
    omega
theorem Inv.num {g : Rw} (h : Inv g) : (g 3 = nI (cO g) ∧ cO g ≤ 4) ∧ (g 4 = nI (cE g) ∧ 1 ≤ cE g ∧ cE g ≤ 30) ∧ ∃ a, a ≤ 2 ∧ g 2 = nI a := by
  obtain ⟨r, hr, er⟩ := h.ri.2.1
  obtain ⟨ha, b, hb, eb⟩ := h.nu
  have e3 : cO g = r := by rw [cO, er, nI_clamp (by omega)]
  have e4 : cE g = b := by rw [cE, eb, nI_clamp (by omega)]
  exact ⟨⟨by rw [e3]; exact er, by omega⟩, ⟨by rw [e4]; exact eb, by omega, by omega⟩, ha⟩
theorem with_sm {g : Rw} (mk : Int32) : f_X7_cellsWith g mk = nI (sm (isC g mk) 80) := by
  rw [f_X7_cellsWith]
  suffices ∀ n k, k ≤ 80 → 80 < k + n → lp_rWith g mk n k (nI (sm (isC g mk) k)) = nI (sm (isC g mk) 80) from this 81 0 (by omega) (by omega)
  intro n
  induction n with
  | zero => intro k h1 h2; omega
  | succ n ih =>
    intro k h1 h2
    rw [lp_rWith]
    by_cases c1 : (80 : Int32) ≤ nI k
    · have h80 := (k80 h1).mp c1
      rw [if_pos c1, show k = 80 by omega]
    · have hk : k < 80 := kN (B := 80) c1 (by omega) (by omega)
      have e := ih (k + 1) (by omega) (by omega)
      have s1 : sm (isC g mk) (k + 1) = sm (isC g mk) k + isC g mk k := rfl
      rw [if_neg c1]
      by_cases c2 : g (7 + k) = mk
      · rw [s1, show isC g mk k = 1 from if_pos c2] at e
        rw [if_pos c2, nI_1]
        exact e
      · rw [s1, show isC g mk k = 0 from if_neg c2, Nat.add_zero] at e
        rw [if_neg c2, Int32.add_zero]
        exact e
theorem many_sm {g : Rw} (h : Inv g) {s : Nat} (hs : s < 5) : f_X7_many g (nI s) = nI (sm (isT g s) (gm g)) := by
  obtain ⟨em, hm⟩ := h.ri.m
  rw [f_X7_many]
  suffices ∀ n k, k ≤ gm g → gm g < k + n → lp_rMany g (nI s) n k (nI (sm (isT g s) k)) = nI (sm (isT g s) (gm g)) from this (gm g + 1) 0 (by omega) (by omega)
  intro n
  induction n with
  | zero => intro k h1 h2; omega
  | succ n ih =>
    intro k h1 h2
    rw [lp_rMany, em]
    by_cases c1 : nI (gm g) ≤ nI k
    · have h8 := (nI_leI (by omega) (by omega)).mp c1
      rw [if_pos c1, show k = gm g by omega]
    · have hk : k < gm g := by
        rcases Nat.lt_or_ge k (gm g) with z | z
        · exact z
        · exact absurd (nI_le z (by omega)) c1
      have e := ih (k + 1) (by omega) (by omega)
      have s1 : sm (isT g s) (k + 1) = sm (isT g s) k + isT g s k := rfl
      obtain ⟨-, ⟨e2, l2⟩, -⟩ := h.car hk
      rw [if_neg c1]
      by_cases c2 : f_X7_of g k 2 = nI s
      · have c3 : nwT g k = s := nI_inj (by omega) (by omega) (e2.symm.trans c2)
        rw [s1, show isT g s k = 1 from if_pos c3] at e
        rw [if_pos c2, nI_1]
        exact e
      · have c3 : ¬ nwT g k = s := fun z => c2 (by rw [e2, z])
        rw [s1, show isT g s k = 0 from if_neg c3, Nat.add_zero] at e
        rw [if_neg c2, Int32.add_zero]
        exact e
theorem allPark_sm {S : St} {g : Rw} (h : Rel S g) (hi : Inv g) : f_X4_allParkedMinutes S = nI (sm (nwK g) (gm g)) := by
  obtain ⟨em, hm⟩ := hi.ri.m
  have eN : sN S = nI (gm g) := h.1.1.symm.trans em
  rw [f_X4_allParkedMinutes, eN, nI_clamp (by omega)]
  suffices ∀ n k, k ≤ gm g → gm g < k + n → lp_allPark S n k (nI (sm (nwK g) k)) = nI (sm (nwK g) (gm g)) from this (gm g + 1) 0 (by omega) (by omega)
  intro n
  induction n with
  | zero => intro k h1 h2; omega
  | succ n ih =>
    intro k h1 h2
    rw [lp_allPark, eN]
    by_cases c1 : nI (gm g) ≤ nI k
    · have h8 := (nI_leI (by omega) (by omega)).mp c1
      rw [if_pos c1, show k = gm g by omega]
    · have hk : k < gm g := by
        rcases Nat.lt_or_ge k (gm g) with z | z
        · exact z
        · exact absurd (nI_le z (by omega)) c1
      have e := ih (k + 1) (by omega) (by omega)
      have s1 : sm (nwK g) (k + 1) = sm (nwK g) k + nwK g k := rfl
      obtain ⟨-, -, ⟨e4, -⟩, -⟩ := hi.car hk
      rw [s1] at e
      rw [if_neg c1, get_n _ (by omega) (by omega), ← (h.2.2.1 k hk).2.2.2.2.1, e4, nI_add]
      exact e
/-! questions -/
theorem rd_ab0 {X : Cx} {M : Mo} (h : RelX X M) : pv (h_X6_about X 0) X = (nI (gm (mN M)), X) := by
  rw [h_X6_about, if_pos rfl, ← h.nw.1.1.1, h.nw.2.ri.m.1]
  rfl
theorem rd_ab1 {X : Cx} {M : Mo} (h : RelX X M) : pv (h_X6_about X 1) X = (nI (sm (isT (mN M) 0) (gm (mN M))), X) := by
  rw [h_X6_about, if_neg (by decide), if_pos rfl, many_eq h.nw.1 h.nw.2.ri, show (0 : Int32) = nI 0 from rfl, many_sm h.nw.2 (by omega)]
  rfl
theorem rd_ab2 {X : Cx} {M : Mo} (h : RelX X M) : pv (h_X6_about X 2) X = (nI (sm (isT (mN M) 1) (gm (mN M))), X) := by
  rw [h_X6_about, if_neg (by decide), if_neg (by decide), if_pos rfl, many_eq h.nw.1 h.nw.2.ri, show (1 : Int32) = nI 1 from rfl, many_sm h.nw.2 (by omega)]
  rfl
theorem rd_ab3 {X : Cx} {M : Mo} (h : RelX X M) : pv (h_X6_about X 3) X = (nI (sm (isT (mN M) 2) (gm (mN M))), X) := by
  rw [h_X6_about, if_neg (by decide), if_neg (by decide), if_neg (by decide), if_pos rfl, many_eq h.nw.1 h.nw.2.ri, show (2 : Int32) = nI 2 from rfl, many_sm h.nw.2 (by omega)]
  rfl
theorem rd_ab4 {X : Cx} {M : Mo} (h : RelX X M) : pv (h_X6_about X 4) X = (nI (sm (isT (mN M) 3) (gm (mN M))), X) := by
  rw [h_X6_about, if_neg (by decide), if_neg (by decide), if_neg (by decide), if_neg (by decide), if_pos rfl, many_eq h.nw.1 h.nw.2.ri, show (3 : Int32) = nI 3 from rfl, many_sm h.nw.2 (by omega)]
  rfl
theorem rd_ab5 {X : Cx} {M : Mo} (h : RelX X M) : pv (h_X6_about X 5) X = (nI (sm (isT (mN M) 4) (gm (mN M))), X) := by
  rw [h_X6_about, if_neg (by decide), if_neg (by decide), if_neg (by decide), if_neg (by decide), if_neg (by decide), if_pos rfl, many_eq h.nw.1 h.nw.2.ri, show (4 : Int32) = nI 4 from rfl, many_sm h.nw.2 (by omega)]
  rfl
theorem rd_ab7 {X : Cx} {M : Mo} (h : RelX X M) : pv (h_X6_about X 7) X = (nI (f_X7_gaps (mN M)), X) := by
  rw [h_X6_about, if_neg (by decide), if_neg (by decide), if_neg (by decide), if_neg (by decide), if_neg (by decide), if_neg (by decide), if_neg (by decide), if_pos rfl, gapCount_eq h.nw.1.2.2.2]
  rfl
theorem rd_ab8 {X : Cx} {M : Mo} (h : RelX X M) : pv (h_X6_about X 8) X = (nI (f_X7_longest (mN M)), X) := by
  rw [h_X6_about, if_neg (by decide), if_neg (by decide), if_neg (by decide), if_neg (by decide), if_neg (by decide), if_neg (by decide), if_neg (by decide), if_neg (by decide), if_pos rfl, longestGap_eq h.nw.1.2.2.2]
  rfl
theorem rd_ab9 {X : Cx} {M : Mo} (h : RelX X M) : pv (h_X6_about X 9) X = (nI (sm (isC (mN M) (-1)) 80), X) := by
  rw [h_X6_about, if_neg (by decide), if_neg (by decide), if_neg (by decide), if_neg (by decide), if_neg (by decide), if_neg (by decide), if_neg (by decide), if_neg (by decide), if_neg (by decide), if_pos rfl, with_eq h.nw.1, with_sm]
  rfl
theorem rd_ab10 {X : Cx} {M : Mo} (h : RelX X M) : pv (h_X6_about X 10) X = (nI (sm (isC (mN M) 100) 80), X) := by
  rw [h_X6_about, if_neg (by decide), if_neg (by decide), if_neg (by decide), if_neg (by decide), if_neg (by decide), if_neg (by decide), if_neg (by decide), if_neg (by decide), if_neg (by decide), if_neg (by decide), if_pos rfl, with_eq h.nw.1, with_sm]
  rfl
theorem rd_ab11 {X : Cx} {M : Mo} (h : RelX X M) : pv (h_X6_about X 11) X = (nI (sm (nwK (mN M)) (gm (mN M))), X) := by
  rw [h_X6_about, if_neg (by decide), if_neg (by decide), if_neg (by decide), if_neg (by decide), if_neg (by decide), if_neg (by decide), if_neg (by decide), if_neg (by decide), if_neg (by decide), if_neg (by decide), if_neg (by decide), if_pos rfl, allPark_sm h.nw.1 h.nw.2]
  rfl
theorem rq_yes {X : Cx} {M : Mo} (h : RelX X M) {c : Nat} (hc : c < gm (mN M)) : ¬ f_X6_requireCar X (nI c) = 0 := fun z => by
  have h1 := (rq_car h (nI c)).mp z
  rw [isCar_n h.nw.2.ri hc] at h1
  exact absurd h1 (by decide)
theorem rd_car0 {X : Cx} {M : Mo} (h : RelX X M) {c : Nat} (hc : c < gm (mN M)) : pv (h_X6_carOf X (nI c) 0) X = (nI (pj (mN M) c), X) := by
  have hm := h.nw.2.ri.m.2
  rw [h_X6_carOf, if_neg (rq_yes h hc), if_pos rfl, get_n _ (by omega) (by omega), ← (h.nw.1.2.2.1 c hc).1, (h.nw.2.ri.J hc).1]
  rfl
theorem rd_car1 {X : Cx} {M : Mo} (h : RelX X M) {c : Nat} (hc : c < gm (mN M)) : pv (h_X6_carOf X (nI c) 1) X = (nI (nwY (mN M) c), X) := by
  have hm := h.nw.2.ri.m.2
  rw [h_X6_carOf, if_neg (rq_yes h hc), if_neg (by decide), if_pos rfl, get_n _ (by omega) (by omega), ← (h.nw.1.2.2.1 c hc).2.1, (h.nw.2.car hc).1.1]
  rfl
theorem rd_car2 {X : Cx} {M : Mo} (h : RelX X M) {c : Nat} (hc : c < gm (mN M)) : pv (h_X6_carOf X (nI c) 2) X = (nI (nwT (mN M) c), X) := by
  have hm := h.nw.2.ri.m.2
  rw [h_X6_carOf, if_neg (rq_yes h hc), if_neg (by decide), if_neg (by decide), if_pos rfl, get_n _ (by omega) (by omega), ← (h.nw.1.2.2.1 c hc).2.2.1, (h.nw.2.car hc).2.1.1]
  rfl
theorem rd_car3 {X : Cx} {M : Mo} (h : RelX X M) {c : Nat} (hc : c < gm (mN M)) : pv (h_X6_carOf X (nI c) 3) X = (f_X7_of (mN M) c 3, X) := by
  have hm := h.nw.2.ri.m.2
  rw [h_X6_carOf, if_neg (rq_yes h hc), if_neg (by decide), if_neg (by decide), if_neg (by decide), if_pos rfl, get_n _ (by omega) (by omega), ← (h.nw.1.2.2.1 c hc).2.2.2.1]
  rfl
theorem rd_car4 {X : Cx} {M : Mo} (h : RelX X M) {c : Nat} (hc : c < gm (mN M)) : pv (h_X6_carOf X (nI c) 4) X = (nI (nwK (mN M) c), X) := by
  have hm := h.nw.2.ri.m.2
  rw [h_X6_carOf, if_neg (rq_yes h hc), if_neg (by decide), if_neg (by decide), if_neg (by decide), if_neg (by decide), if_pos rfl, get_n _ (by omega) (by omega), ← (h.nw.1.2.2.1 c hc).2.2.2.2.1, (h.nw.2.car hc).2.2.1.1]
  rfl
theorem rd_car5 {X : Cx} {M : Mo} (h : RelX X M) {c : Nat} (hc : c < gm (mN M)) : pv (h_X6_carOf X (nI c) 5) X = (nI (nwR (mN M) c), X) := by
  have hm := h.nw.2.ri.m.2
  rw [h_X6_carOf, if_neg (rq_yes h hc), if_neg (by decide), if_neg (by decide), if_neg (by decide), if_neg (by decide), if_neg (by decide), if_pos rfl, get_n _ (by omega) (by omega), ← (h.nw.1.2.2.1 c hc).2.2.2.2.2, (h.nw.2.car hc).2.2.2.1.1]
  rfl
/-- the minutes that a car has still -/
def lf (g : Rw) (c : Nat) : Int32 := if nwT g c = 0 then nI (nwY g c - nwK g c) else -1
theorem rd_car6 {X : Cx} {M : Mo} (h : RelX X M) {c : Nat} (hc : c < gm (mN M)) : pv (h_X6_carOf X (nI c) 6) X = (lf (mN M) c, X) := by
  have hm := h.nw.2.ri.m.2
  obtain ⟨⟨e1, -, -⟩, -, ⟨e4, l4⟩, -, -, -, -, z⟩ := h.nw.2.car hc
  rw [h_X6_carOf, if_neg (rq_yes h hc), if_neg (by decide), if_neg (by decide), if_neg (by decide), if_neg (by decide), if_neg (by decide), if_neg (by decide), if_pos rfl, parked_eq h.nw.1 h.nw.2.ri, lf]
  by_cases c0 : nwT (mN M) c = 0
  · rw [if_neg (fun w => (isParked_n h.nw.2.ri hc).mp w (z.mpr c0)), if_pos c0, f_X4_minutesLeft, get_n _ (by omega) (by omega), get_n _ (by omega) (by omega), ← (h.nw.1.2.2.1 c hc).2.1, ← (h.nw.1.2.2.1 c hc).2.2.2.2.1, e1, e4, pk_sub l4]
    rfl
  · rw [if_pos ((isParked_n h.nw.2.ri hc).mpr (fun w => c0 (z.mp w))), if_neg c0]
    rfl
theorem cell_yes {x : Nat} (hx : x < 80) : ¬ f_X6_requireCell (nI x) = 0 := by
  rw [f_X6_requireCell, f_X6_isCell, if_neg (nI_pos (by omega)), if_neg (s80 hx), if_neg (by decide)]
  decide
theorem rd_at {X : Cx} {M : Mo} (h : RelX X M) {x : Nat} (hx : x < 80) : pv (h_X6_at X (nI x)) X = ((mN M) (7 + x), X) := by
  rw [h_X6_at, if_neg (cell_yes hx), get_n _ hx (by omega), ← h.nw.1.2.1 x hx]
  rfl
theorem rd_set1 {X : Cx} {M : Mo} (h : RelX X M) : pv (h_X6_setting X 1) X = (nI (cO (mN M)), X) := by
  obtain ⟨⟨e3, l3⟩, -, -⟩ := h.nw.2.num
  have e : f_X4_settingOf (xN X) 1 = nI (cO (mN M)) := by
    rw [f_X4_settingOf, if_neg (by decide), if_pos rfl, ← h.nw.1.1.2.2.2.1, e3]
  rw [h_X6_setting, e, if_neg (nI_m1 (by omega))]
  rfl
theorem rd_set2 {X : Cx} {M : Mo} (h : RelX X M) : pv (h_X6_setting X 2) X = (nI (cE (mN M)), X) := by
  obtain ⟨-, ⟨e4, -, l4⟩, -⟩ := h.nw.2.num
  have e : f_X4_settingOf (xN X) 2 = nI (cE (mN M)) := by
    rw [f_X4_settingOf, if_neg (by decide), if_neg (by decide), if_pos rfl, ← h.nw.1.1.2.2.2.2.1, e4]
  rw [h_X6_setting, e, if_neg (nI_m1 (by omega))]
  rfl
theorem len_yes {j : Nat} (hj : 2 ≤ j ∧ j ≤ 8) : ¬ f_X6_requireLength (nI j) = 0 := by
  rw [f_X6_requireLength, f_X6_isLength, if_neg (show ¬ nI j < (2 : Int32) from nI_nlt (a := j) (b := 2) hj.1 (by omega)), if_neg (show ¬ (8 : Int32) < nI j from nI_nlt (a := 8) (b := j) hj.2 (by omega)), if_neg (by decide)]
  decide
theorem reason_wy {g : Rw} (h : Inv g) {j : Nat} (hj : j ≤ 8) : f_X7_reason g (nI j) = nI (wy g j) := by
  obtain ⟨⟨e3, l3⟩, -, -⟩ := h.num
  have hl := longest_le g
  have e1 : nI j ≤ nI (f_X7_longest g) ↔ j ≤ f_X7_longest g := nI_leI (by omega) (by omega)
  have e2 : f_X7_suffices g (nI j) = 0 ↔ f_X7_longest g < j + cO g := by rw [f_X7_suffices, e3, nI_add, b01, nI_ltI (by omega) (by omega)]
  rw [f_X7_reason, wy]
  by_cases c1 : f_X7_longest g < j
  · rw [if_neg (fun z => by have := e1.mp z; omega), if_pos c1]
    rfl
  · rw [if_pos (e1.mpr (by omega)), if_neg c1]
    by_cases c2 : f_X7_longest g < j + cO g
    · rw [if_pos (e2.mpr c2), if_pos c2]
      rfl
    · rw [if_neg (fun z => c2 (e2.mp z)), if_neg c2]
      rfl
theorem rd_why {X : Cx} {M : Mo} (h : RelX X M) {j : Nat} (hj : 2 ≤ j ∧ j ≤ 8) : pv (h_X6_why X (nI j)) X = (nI (wy (mN M) j), X) := by
  rw [h_X6_why, if_neg (len_yes hj), reason_eq h.nw.1, reason_wy h.nw.2 hj.2]
  rfl
theorem rd_place {X : Cx} {M : Mo} (h : RelX X M) {j : Nat} (hj : 2 ≤ j ∧ j ≤ 8) : pv (h_X6_place X (nI j)) X = ((h_X7_placeFor (mN M) (nI j)).1, X) := by
  rw [h_X6_place, if_neg (len_yes hj), place_eq h.nw.1 h.nw.2.ri ⟨by omega, hj.2⟩]
  rfl
theorem rd_fits1 {X : Cx} {M : Mo} (h : RelX X M) {j : Nat} (hj : 2 ≤ j ∧ j ≤ 8) : pv (h_X6_fits X (nI j) 1) X = (nI (nf (mN M) j), X) := by
  obtain ⟨⟨e3, l3⟩, -, -⟩ := h.nw.2.num
  rw [h_X6_fits, if_neg (len_yes hj), if_neg (by decide), if_pos rfl, fit_eq ⟨by omega, hj.2⟩ l3 e3 h.nw.1.1.2.2.2.1.symm h.nw.1.2.2.2, fits_sm ⟨by omega, hj.2⟩ l3 e3]
  rfl
theorem rd_fits0 {X : Cx} {M : Mo} (h : RelX X M) {j : Nat} (hj : 2 ≤ j ∧ j ≤ 8) : ∃ T, pv (h_X6_fits X (nI j) 0) X = (nI (nf (mN M) j), yR X T) := by
  obtain ⟨⟨e3, l3⟩, -, -⟩ := h.nw.2.num
  have e1 : h_X6_fits X (nI j) 0 = .inr ((h_X4_fillWith (wU (xN X) 0) (nI j)).1, yR X (h_X4_fillWith (wU (xN X) 0) (nI j)).2) := by
    rw [h_X6_fits, if_neg (len_yes hj), if_neg (by decide), if_neg (by decide)]
    rfl
  have hl : ¬ f_X7_isLength (nI j) = 0 := fun z => len_yes hj ((rq_len (nI j)).mpr z)
  have ho := o_fits (nI j) 0 h
  rw [e1] at ho
  rcases ho with ⟨X1, e, -, -⟩ | ⟨E, e, -⟩
  · have e2 : (h_X7_fits M (nI j) 0).1 = nI (nf (mN M) j) := by
      rw [h_X7_fits, if_neg hl, if_neg (by decide +kernel), refused_2]
      show f_X7_fitsIn (mN M) (nI j) = _
      rw [fits_sm ⟨by omega, hj.2⟩ l3 e3]
      rfl
    have e4 := Sum.inr.inj e
    have e5 := congrArg Prod.fst e4
    refine ⟨(h_X4_fillWith (wU (xN X) 0) (nI j)).2, ?_⟩
    rw [e1]
    show ((h_X4_fillWith (wU (xN X) 0) (nI j)).1, _) = _
    rw [show (h_X4_fillWith (wU (xN X) 0) (nI j)).1 = (h_X7_fits M (nI j) 0).1 from e5, e2]
  · cases e
