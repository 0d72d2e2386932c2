/-! the car that is to be moved -/
theorem pk_of {S : St} {g : Rw} (h : RS S g) {k : Nat} (hk : k < gm g) (hp : f_X7_of g k 2 = 0) : Pk g k (px g k) (pj g k) (dn g (px g k)) (f_X7_gapCells g (px g k + pj g k)) := by
  obtain ⟨e3, e0, hx8⟩ := h.2.ri.X hk hp
  have L28 := (h.2.ri.J hk).2
  exact ⟨hk, hp, rfl, rfl, L28.2, rfl, rfl, hx8⟩
theorem mv_lp {S : St} {g : Rw} (h : RS S g) {j r : Nat} (hj : 2 ≤ j ∧ j ≤ 8) (hr : r ≤ 4) (h3 : g 3 = nI r) (no : ¬ ∃ a, Run g a (j + r)) : ∀ (n k : Nat), k ≤ gm g → gm g < k + n → lp_mover S (nI j) n k = -1 ∨ ∃ c p L B A, lp_mover S (nI j) n k = nI c ∧ Pk g c p L B A ∧ f_X4_freeBelow S (nI c) = nI B ∧ f_X4_freeAbove S (nI c) = nI A ∧ f_X6_get 40 (sP S) (nI c) = nI p ∧ j + r ≤ B + A ∧ B < j + r ∧ A < j + r := by
  obtain ⟨em, hm⟩ := h.2.ri.m
  intro n
  induction n with
  | zero => intro k h1 h2; omega
  | succ n ih =>
    intro k h1 h2
    rw [lp_mover, ← h.1.1.1]
    by_cases c1 : g 0 ≤ nI k
    · rw [if_pos c1]
      exact Or.inl rfl
    · have hk : k < gm g := by
        rw [em, nI_leI (by omega) (by omega)] at c1
        omega
      rw [if_neg c1, parked_eq h.1 h.2.ri]
      by_cases c2 : f_X7_isParked g (nI k) = 0
      · rw [if_pos c2]
        exact ih (k + 1) (by omega) (by omega)
      · rw [if_neg c2]
        have hp : f_X7_of g k 2 = 0 := Decidable.byContradiction fun z => c2 ((isParked_n h.2.ri hk).mpr z)
        obtain ⟨e3, e0, hx8⟩ := h.2.ri.X hk hp
        have pk := pk_of h hk hp
        obtain ⟨a1, a2, fB, fA, -, -⟩ := pk.all
        have eL : f_X6_get 40 (sL S) (nI k) = nI (pj g k) := by rw [get_n _ (by omega) (by omega), ← (h.1.2.2.1 k hk).1, e0]
        have eP : f_X6_get 40 (sP S) (nI k) = nI (px g k) := by rw [get_n _ (by omega) (by omega), ← (h.1.2.2.1 k hk).2.2.2.1, e3]
        have eB : f_X4_freeBelow S (nI k) = nI (dn g (px g k)) := by
          have q := below_lp h.1 (px g k) 0 82 (by omega) (by omega)
          rw [Nat.zero_add] at q
          rw [f_X4_freeBelow, eP, show nI (px g k) - 1 = nI (px g k) + (-1) from Int32.sub_eq_add_neg _ _]
          exact q
        have eA : f_X4_freeAbove S (nI k) = nI (f_X7_gapCells g (px g k + pj g k)) := by
          have q := above_lp h.1 82 (px g k + pj g k) 0 hx8 (by omega)
          rw [Nat.zero_add] at q
          rw [f_X4_freeAbove, eP, eL, nI_add]
          exact q
        have nB : dn g (px g k) < j + r := by
          rcases Nat.lt_or_ge (dn g (px g k)) (j + r) with z | z
          · exact z
          · exact absurd ⟨px g k - dn g (px g k), by omega, fun i i1 i2 => fB i i1 (by omega)⟩ no
        have nA : f_X7_gapCells g (px g k + pj g k) < j + r := by
          rcases Nat.lt_or_ge (f_X7_gapCells g (px g k + pj g k)) (j + r) with z | z
          · exact z
          · exact absurd ⟨px g k + pj g k, by omega, fun i i1 i2 => fA i i1 (by omega)⟩ no
        have eO : sO S = nI r := h.1.1.2.2.2.1.symm.trans h3
        rw [eB, eA, eO, nI_add, nI_add]
        by_cases c3 : nI (dn g (px g k) + f_X7_gapCells g (px g k + pj g k)) < nI (j + r)
        · rw [if_pos c3]
          exact ih (k + 1) (by omega) (by omega)
        · rw [if_neg c3]
          have c3' : j + r ≤ dn g (px g k) + f_X7_gapCells g (px g k + pj g k) := by
            rcases Nat.lt_or_ge (dn g (px g k) + f_X7_gapCells g (px g k + pj g k)) (j + r) with z | z
            · exact absurd (nI_lt z (by omega)) c3
            · exact z
          exact Or.inr ⟨k, _, _, _, _, rfl, pk, eB, eA, eP, c3', nB, nA⟩
/-- what mover answers -/
def Mv (g : Rw) (j c x : Nat) : Prop := ∃ p L B A, Pk g c p L B A ∧ x < 80 ∧ p - B ≤ x ∧ x ≤ p + A ∧ x ≠ p ∧ (p - B + (j + cO g) ≤ x ∨ x + (j + cO g) ≤ p + A)
theorem rd_mov {X : Cx} {M : Mo} (h : RelX X M) {j : Nat} (hj : 2 ≤ j ∧ j ≤ 8) : (pv (h_X6_mover X (nI j) 0) X = (-1, X) ∧ pv (h_X6_mover X (nI j) 1) X = (-1, X)) ∨ (¬ wy (mN M) j = 0 ∧ ∃ c x, pv (h_X6_mover X (nI j) 0) X = (nI c, X) ∧ pv (h_X6_mover X (nI j) 1) X = (nI x, X) ∧ Mv (mN M) j c x) := by
  obtain ⟨⟨e3, l3⟩, -, -⟩ := h.nw.2.num
  have hm := h.nw.2.ri.m.2
  have r0 := reason_0 h hj
  have m0 : ∀ v, f_X4_carToShift (xN X) (nI j) = v → pv (h_X6_mover X (nI j) 0) X = (v, X) := fun v e => by
    rw [h_X6_mover, if_neg (len_yes hj), if_neg (by decide), if_pos rfl, e]
    rfl
  have m1 : f_X4_carToShift (xN X) (nI j) = -1 → pv (h_X6_mover X (nI j) 1) X = (-1, X) := fun e => by
    rw [h_X6_mover, if_neg (len_yes hj), if_neg (by decide), if_neg (by decide), e, if_pos rfl]
    rfl
  by_cases cw : wy (mN M) j = 0
  · have e : f_X4_carToShift (xN X) (nI j) = -1 := by rw [f_X4_carToShift, if_pos (r0.mpr cw)]
    exact Or.inl ⟨m0 _ e, m1 e⟩
  · have no : ¬ ∃ a, Run (mN M) a (j + cO (mN M)) := fun z => cw ((wy_0 hj.1).mpr ((longest_run (by omega)).mpr z))
    have eN : (sN (xN X)).toNatClampNeg + 1 = gm (mN M) + 1 := by rw [← h.nw.1.1.1]; rfl
    have ec : f_X4_carToShift (xN X) (nI j) = lp_mover (xN X) (nI j) (gm (mN M) + 1) 0 := by
      rw [f_X4_carToShift, if_neg (fun z => cw (r0.mp z)), eN]
    rcases mv_lp h.nw hj l3 e3 no (gm (mN M) + 1) 0 (Nat.zero_le _) (by omega) with z | ⟨c, p, L, B, A, e, pk, eB, eA, eP, hBA, hB, hA⟩
    · rw [z] at ec
      exact Or.inl ⟨m0 _ ec, m1 ec⟩
    · rw [e] at ec
      obtain ⟨a1, a2, -, -, -, -⟩ := pk.all
      have hL := pk.L2
      have hc := pk.hc
      have eO : sO (xN X) = nI (cO (mN M)) := h.nw.1.1.2.2.2.1.symm.trans e3
      refine Or.inr ⟨cw, c, if A < B then p + (j + cO (mN M) - B) else p - (j + cO (mN M) - A), m0 _ ec, ?_, p, L, B, A, pk, ?_⟩
      · rw [h_X6_mover, if_neg (len_yes hj), if_neg (by decide), if_neg (by decide), ec, if_neg (nI_m1 (by omega)), f_X4_placeToShiftTo, eB, eA, eP, eO, nI_add]
        by_cases z : A < B
        · rw [if_pos z, if_pos (nI_lt z (by omega)), pk_sub (by omega), nI_add]
          rfl
        · rw [if_neg z, if_neg (nI_nlt (a := A) (b := B) (by omega) (by omega)), pk_sub (by omega), pk_sub (by omega)]
          rfl
      · by_cases z : A < B
        · rw [if_pos z]
          exact ⟨by omega, by omega, by omega, by omega, Or.inl (by omega)⟩
        · rw [if_neg z]
          exact ⟨by omega, by omega, by omega, by omega, Or.inr (by omega)⟩
theorem mv_can {g : Rw} (h : Inv g) {j c x : Nat} (hm : Mv g j c x) : c < gm g ∧ x < 80 ∧ px g c < 80 ∧ f_X7_of g c 2 = 0 ∧ ¬ f_X7_canMove g c x = 0 ∧ x ≠ px g c := by
  obtain ⟨p, L, B, A, pk, hx, h1, h2, h3, -⟩ := hm
  have hp := pk.hpL
  have hL := pk.L2
  have ep := pk.ep
  exact ⟨pk.hc, hx, by omega, pk.hs, (can_iff h pk hx).mpr ⟨h1, h2⟩, by omega⟩
theorem move_row {g : Rw} (h : Inv g) {c x : Nat} (hc : c < gm g) (hx : x < 80) (hm : ¬ f_X7_canMove g c x = 0) : gm (h_X7_moveOn g c x).2 = gm g ∧ f_X7_of (h_X7_moveOn g c x).2 c 3 = nI x ∧ (h_X7_moveOn g c x).2 3 = g 3 ∧ ∀ y, y < 80 → (h_X7_moveOn g c x).2 (7 + y) = if x ≤ y ∧ y < x + pj g c then nI c else if px g c ≤ y ∧ y < px g c + pj g c then -1 else g (7 + y) := by
  have hm4 := h.ri.m.2
  obtain ⟨-, hp, hxj, -⟩ := move_cells h.ri (show c < 2 ^ 31 by omega) hx hm
  obtain ⟨-, -, hx8⟩ := h.ri.X hc hp
  have e : (h_X7_moveOn g c x).2 = h_X7_lay (h_X7_fill (h_X7_fill g (px g c) (pj g c) (-1)) x (pj g c) (nI c)) c 3 (nI x) := by
    rw [h_X7_moveOn]
    by_cases z : nI (px g c) ≤ nI x
    · rw [if_pos z]
    · rw [if_neg z]
  rw [e]
  refine ⟨gm_cong (by rw [lay_lo _ _ (by omega), fill_lo _ _ _ _ (by omega), fill_lo _ _ _ _ (by omega)]), of_lay_eq .., by rw [lay_lo _ _ (by omega), fill_lo _ _ _ _ (by omega), fill_lo _ _ _ _ (by omega)], fun y hy => ?_⟩
  rw [lay_lo _ _ (by omega), fill_at _ _ hxj, fill_at _ _ hx8]
  by_cases z : x ≤ y ∧ y < x + pj g c
  · rw [if_pos z, if_pos (by omega)]
  · rw [if_neg z, if_neg (by omega)]
    by_cases w : px g c ≤ y ∧ y < px g c + pj g c
    · rw [if_pos w, if_pos (by omega)]
    · rw [if_neg w, if_neg (by omega)]
theorem mv_gap {g : Rw} (h : Inv g) {j c x : Nat} (hj : 2 ≤ j ∧ j ≤ 8) (hw : ¬ wy g j = 0) (hm : Mv g j c x) : wy (h_X7_moveOn g c x).2 j = 0 := by
  obtain ⟨hc, hx, -, -, hcan, -⟩ := mv_can h hm
  obtain ⟨-, -, e3, ecell⟩ := move_row h hc hx hcan
  have hm4 := h.ri.m.2
  obtain ⟨p, L, B, A, pk, -, h1, h2, -, h4⟩ := hm
  have no : ¬ ∃ a, Run g a (j + cO g) := fun z => hw ((wy_0 hj.1).mpr ((longest_run (by omega)).mpr z))
  rw [pk.ep, pk.eL] at ecell
  have q := (moved_run pk (by omega) no h1 h2 ecell (by omega)).mpr h4
  rw [wy_0 hj.1, show cO (h_X7_moveOn g c x).2 = cO g by rw [cO, e3, cO], longest_run (by omega)]
  exact q
