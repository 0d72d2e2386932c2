theorem RelX.keep {X : Cx} {M M' : Mo} (h : RelX X M) (s : SameRest M' M) (hc : mC M' = mC M) (hd : mD M' = mD M) : RelX X M' := by
  obtain ⟨sA, sT, sZ, sN, sK, sI⟩ := s
  have ez : zz M' = zz M := by rw [zz, sZ, zz]
  exact ⟨by rw [sZ, ez]; exact h.tz, by rw [ez]; exact h.t120, ⟨by rw [sZ]; exact h.tl.1, fun i hi => by rw [sT]; exact h.tl.2 i (by omega)⟩, by rw [sN]; exact h.nw, h.ho, h.hk, hc.trans h.hc, fun i hi => by rw [hd]; exact h.hr i hi, fun j hj => by rw [sI, sK]; exact h.sl j hj⟩
def Kept (R M : Mo) : Prop := SameRest R M ∧ mC R = mC M ∧ mD R = mD M
theorem Kept.rf (M : Mo) : Kept M M := ⟨⟨rfl, rfl, rfl, rfl, rfl, rfl⟩, rfl, rfl⟩
theorem Kept.tr {A B C : Mo} (h : Kept A B) (g : Kept B C) : Kept A C := by
  obtain ⟨⟨a1, a2, a3, a4, a5, a6⟩, a7, a8⟩ := h
  obtain ⟨⟨b1, b2, b3, b4, b5, b6⟩, b7, b8⟩ := g
  exact ⟨⟨a1.trans b1, a2.trans b2, a3.trans b3, a4.trans b4, a5.trans b5, a6.trans b6⟩, a7.trans b7, a8.trans b8⟩
theorem Kept.oH (M : Mo) (v w : Rw) : Kept (oH (oH M v) w) M := ⟨⟨rfl, rfl, rfl, rfl, rfl, rfl⟩, rfl, rfl⟩
theorem helps_keep (c : Nat) (len : Int32) : ∀ (n : Nat) (best least : Int32) (k : Nat) (M : Mo), Kept (lp_rHelps c len n best least k M).2 M := by
  intro n
  induction n with
  | zero => intro best least k M; exact Kept.rf M
  | succ n ih =>
    intro best least k M
    rw [lp_rHelps]
    by_cases c1 : (80 : Int32) ≤ nI k
    · rw [if_pos c1]; exact Kept.rf M
    · rw [if_neg c1]
      by_cases c2 : f_X7_canMove (mN M) c k = 0
      · rw [if_pos c2]; exact ih ..
      · rw [if_neg c2]
        generalize (h_X7_moveOn (mH (oH M (h_X7_copyState (mN M) (mH M) 0 0))) c k).1 = d
        generalize (h_X7_moveOn (mH (oH M (h_X7_copyState (mN M) (mH M) 0 0))) c k).2 = W
        generalize h_X7_copyState (mN M) (mH M) 0 0 = V
        by_cases c3 : f_X7_suffices (mH (oH (oH M V) W)) len = 0
        · rw [if_pos c3]; exact (ih ..).tr (Kept.oH ..)
        · rw [if_neg c3]
          by_cases c4 : best = -1
          · rw [if_pos c4]; exact (ih ..).tr (Kept.oH ..)
          · rw [if_neg c4]
            by_cases c5 : least ≤ d
            · rw [if_pos c5]; exact (ih ..).tr (Kept.oH ..)
            · rw [if_neg c5]; exact (ih ..).tr (Kept.oH ..)
theorem mover_lp {S : St} {g : Rw} (h : RS S g) {j r : Nat} (hj : 2 ≤ j ∧ j ≤ 8) (hr : r ≤ 4) (h3 : g 3 = nI r) (no : ¬ ∃ a, Run g a (j + r)) (w : Int32) (M0 : Mo) : ∀ (n k : Nat) (M : Mo), mN M = g → k ≤ gm g → gm g < k + n →
    (lp_rMover M0 (nI j) w n k M).1 = (if w = 0 then lp_mover S (nI j) n k else if lp_mover S (nI j) n k = -1 then -1 else f_X4_placeToShiftTo S (lp_mover S (nI j) n k) (nI j)) ∧ Kept (lp_rMover M0 (nI j) w n k M).2 M := by
  obtain ⟨em, hm⟩ := h.2.ri.m
  have hs0 : f_X7_suffices g (nI j) = 0 := (suff_run hj hr h3).mpr no
  intro n
  induction n with
  | zero => intro k M hM h1 h2; omega
  | succ n ih =>
    intro k M hM h1 h2
    rw [lp_rMover, lp_mover, hM, ← h.1.1.1]
    by_cases c1 : g 0 ≤ nI k
    · rw [if_pos c1, if_pos c1, if_pos rfl]
      refine ⟨?_, Kept.rf M⟩
      by_cases cw : w = 0
      · rw [if_pos cw]
      · rw [if_neg cw]
    · have hk : k < gm g := by
        rw [em, nI_leI (by omega) (by omega)] at c1
        omega
      rw [if_neg c1, if_neg c1, if_pos hs0, parked_eq h.1 h.2.ri]
      by_cases c2 : f_X7_isParked g (nI k) = 0
      · rw [if_pos c2, if_pos c2]
        exact ih (k + 1) M hM (by omega) (by omega)
      · rw [if_neg c2, if_neg c2]
        have hp : f_X7_of g k 2 = 0 := Decidable.byContradiction fun z => c2 ((isParked_n h.2.ri hk).mpr z)
        obtain ⟨e3, e0, hx8⟩ := h.2.ri.X hk hp
        have L28 := (h.2.ri.J hk).2
        have pk : Pk g k (px g k) (pj g k) (dn g (px g k)) (f_X7_gapCells g (px g k + pj g k)) := ⟨hk, hp, rfl, rfl, L28.2, rfl, rfl, hx8⟩
        obtain ⟨a1, a2, fB, fA, -, -⟩ := pk.all
        have eL : f_X6_get 40 (sL S) (nI k) = nI (pj g k) := by rw [get_n _ (by omega) (by omega), ← (h.1.2.2.1 k hk).1, e0]
        have eP : f_X6_get 40 (sP S) (nI k) = nI (px g k) := by rw [get_n _ (by omega) (by omega), ← (h.1.2.2.1 k hk).2.2.2.1, e3]
        have eB : f_X4_freeBelow S (nI k) = nI (dn g (px g k)) := by
          have q := below_lp h.1 (px g k) 0 82 (by omega) (by omega)
          rw [Nat.zero_add] at q
          rw [f_X4_freeBelow, eP, show nI (px g k) - 1 = nI (px g k) + (-1) from Int32.sub_eq_add_neg _ _]
          exact q
        have eA : f_X4_freeAbove S (nI k) = nI (f_X7_gapCells g (px g k + pj g k)) := by
          have q := above_lp h.1 82 (px g k + pj g k) 0 hx8 (by omega)
          rw [Nat.zero_add] at q
          rw [f_X4_freeAbove, eP, eL, nI_add]
          exact q
        have nB : dn g (px g k) < j + r := by
          rcases Nat.lt_or_ge (dn g (px g k)) (j + r) with z | z
          · exact z
          · exact absurd ⟨px g k - dn g (px g k), by omega, fun i i1 i2 => fB i i1 (by omega)⟩ no
        have nA : f_X7_gapCells g (px g k + pj g k) < j + r := by
          rcases Nat.lt_or_ge (f_X7_gapCells g (px g k + pj g k)) (j + r) with z | z
          · exact z
          · exact absurd ⟨px g k + pj g k, by omega, fun i i1 i2 => fA i i1 (by omega)⟩ no
        obtain ⟨l2, hb⟩ := helps_lp h.2 pk hj hr h3 no 81 (-1) 0 0 M hM (by omega) (by omega) (Or.inl ⟨rfl, fun y hy => by omega⟩)
        obtain ⟨b1, b2⟩ := best_place a1 nB nA L28.2 a2 hb
        have hk2 := helps_keep k (nI j) 81 (-1) 0 0 M
        have eO : sO S = nI r := h.1.1.2.2.2.1.symm.trans h3
        rw [eB, eA, eO, nI_add, nI_add]
        have ehl : h_X7_helps M k (nI j) = lp_rHelps k (nI j) 81 (-1) 0 0 M := rfl
        rw [ehl]
        clear ehl
        generalize lp_rHelps k (nI j) 81 (-1) 0 0 M = HH at hb hk2 b1 b2 ⊢
        by_cases c3 : nI (dn g (px g k) + f_X7_gapCells g (px g k + pj g k)) < nI (j + r)
        · rw [if_pos c3]
          have c3' := (nI_ltI (by omega) (by omega)).mp c3
          rw [if_pos (b1 (by omega))]
          have q := ih (k + 1) _ (hk2.1.2.2.2.1.trans hM) (by omega) (by omega)
          exact ⟨q.1, q.2.tr hk2⟩
        · rw [if_neg c3]
          have c3' : j + r ≤ dn g (px g k) + f_X7_gapCells g (px g k + pj g k) := by
            rcases Nat.lt_or_ge (dn g (px g k) + f_X7_gapCells g (px g k + pj g k)) (j + r) with z | z
            · exact absurd ((nI_ltI (by omega) (by omega)).mpr z) c3
            · exact z
          have e9 := b2 (by omega)
          have e9' : ¬ (HH).1 = -1 := by
            rw [e9]
            by_cases z : f_X7_gapCells g (px g k + pj g k) < dn g (px g k)
            · rw [if_pos z]; exact nI_m1 (by omega)
            · rw [if_neg z]; exact nI_m1 (by omega)
          rw [if_neg e9']
          by_cases cw : w = 0
          · rw [if_pos cw, if_pos cw]
            exact ⟨rfl, hk2⟩
          · rw [if_neg cw, if_neg cw, if_neg (nI_m1 (by omega))]
            refine ⟨?_, hk2⟩
            show (HH).1 = _
            rw [e9, f_X4_placeToShiftTo, eB, eA, eP, eO, nI_add]
            by_cases z : f_X7_gapCells g (px g k + pj g k) < dn g (px g k)
            · rw [if_pos z, if_pos ((nI_ltI (by omega) (by omega)).mpr z), pk_sub (by omega), nI_add]
            · rw [if_neg z, if_neg (fun y => z ((nI_ltI (by omega) (by omega)).mp y)), pk_sub (by omega), pk_sub (by omega)]
theorem o_mover {X : Cx} {M : Mo} (len w : Int32) (h : RelX X M) : OpOk RelX "java/lang/IllegalArgumentException" (h_X6_mover X len w) X (h_X7_mover M len w) := by
  have hm := h.nw.2.ri.m
  rw [h_X7_mover]
  by_cases c1 : f_X7_isLength len = 0
  · rw [if_pos c1, refused_2]
    exact ok_l (E := "java/lang/IllegalArgumentException") (by rw [h_X6_mover, if_pos ((rq_len len).mpr c1)]) 1 (if_pos rfl) rfl (h.oA 1)
  · have d1 : ¬ f_X6_requireLength len = 0 := fun z => c1 ((rq_len len).mp z)
    rw [if_neg c1]
    by_cases c2 : f_X7_in w.toInt64 0 1 = 0
    · rw [if_pos c2, refused_2]
      exact ok_l (E := "java/lang/IllegalArgumentException") (by rw [h_X6_mover, if_neg d1, if_pos ((rq_01 w).mpr c2)]) 1 (if_pos rfl) rfl (h.oA 1)
    · have d2 : ¬ f_X6_requireZeroOrOne w = 0 := fun z => c2 ((rq_01 w).mp z)
      rw [if_neg c2, refused_2]
      have sq := suff_eq h.nw c1
      have e : h_X6_mover X len w = .inr ((if w = 0 then f_X4_carToShift (xN X) len else if f_X4_carToShift (xN X) len = -1 then -1 else f_X4_placeToShiftTo (xN X) (f_X4_carToShift (xN X) len) len), X) := by
        rw [h_X6_mover, if_neg d1, if_neg d2]
        by_cases cw : w = 0
        · rw [if_pos cw, if_pos cw]
        · rw [if_neg cw, if_neg cw]
          by_cases cc : f_X4_carToShift (xN X) len = -1
          · rw [if_pos cc, if_pos cc, cc]
          · rw [if_neg cc, if_neg cc]
      have eN : (sN (xN X)).toNatClampNeg + 1 = gm (mN M) + 1 := by rw [← h.nw.1.1.1]; rfl
      by_cases c3 : f_X7_suffices (mN M) len = 0
      · obtain ⟨j, j2, j8, rfl⟩ := len_2e c1
        obtain ⟨r, hr, er⟩ := h.nw.2.ri.2.1
        have q := mover_lp h.nw ⟨j2, j8⟩ hr er ((suff_run ⟨j2, j8⟩ hr er).mp c3) w M (gm (mN M) + 1) 0 (oA M 0) rfl (Nat.zero_le _) (by omega)
        have ec : f_X4_carToShift (xN X) (nI j) = lp_mover (xN X) (nI j) (gm (mN M) + 1) 0 := by
          rw [f_X4_carToShift, if_neg (fun z => (sq.mp z) c3), eN]
        rw [ec] at e
        exact ok_r e q.2.1.1 ((h.oA 0).keep q.2.1 q.2.2.1 q.2.2.2) q.1.symm
      · have ec : f_X4_carToShift (xN X) len = -1 := by
          rw [f_X4_carToShift, if_pos (sq.mpr c3)]
        rw [ec, if_pos rfl] at e
        have e2 : (if w = 0 then (-1 : Int32) else -1) = -1 := by
          by_cases cw : w = 0
          · rw [if_pos cw]
          · rw [if_neg cw]
        rw [e2] at e
        have el : lp_rMover M len w (gm (mN M) + 1) 0 (oA M 0) = (-1, oA M 0) := by
          rw [lp_rMover]
          by_cases c4 : mN (oA M 0) 0 ≤ nI 0
          · rw [if_pos c4]
          · rw [if_neg c4, if_neg (show ¬ f_X7_suffices (mN (oA M 0)) len = 0 from c3)]
        rw [el]
        exact ok_r e rfl (h.oA 0) rfl
