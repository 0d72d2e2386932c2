/-! actions, what is remembered, and undo -/
/-- the object behind an action -/
def rm (X : Cx) (S : St) : Cx := yN (yH (yN X (hT (h_X0_remember (xH X, xN X)))) (hH (h_X0_remember (xH X, xN X)))) S
/-- the object behind undo -/
def un (X : Cx) : Cx := yH (yN X (qF (xH X) ((qO (xH X) + (qK (xH X) - 1)) % 14))) (uK (xH X) (qK (xH X) - 1))
/-- the state remembered at i, from the oldest on -/
def he (X : Cx) (i : Nat) : St := qF (xH X) ((qO (xH X) + i) % 14)
/-- .. and behind the last of them the state now -/
def hn (X : Cx) (i : Nat) : St := if i < qK (xH X) then he X i else xN X
def nm (S : St) : Nat := (sN S).toNatClampNeg
theorem rm_N (X : Cx) (S : St) : xN (rm X S) = S := rfl
theorem rm_lt {X : Cx} {S : St} (h : qK (xH X) < 14) : xH (rm X S) = (fun i => if i = (qO (xH X) + qK (xH X)) % 14 then xN X else qF (xH X) i, qO (xH X), qK (xH X) + 1) := by
  show hH (h_X0_remember (xH X, xN X)) = _
  rw [rem_lt h]
  rfl
theorem rm_14 {X : Cx} {S : St} (h : qK (xH X) = 14) : xH (rm X S) = (fun i => if i = ((qO (xH X) + 1) % 14 + (qK (xH X) - 1)) % 14 then xN X else qF (xH X) i, (qO (xH X) + 1) % 14, qK (xH X) - 1 + 1) := by
  show hH (h_X0_remember (xH X, xN X)) = _
  rw [rem_14 h]
  rfl
theorem rm_O {X : Cx} (S : St) (hO : qO (xH X) < 14) (hk : qK (xH X) ≤ 14) : qO (xH (rm X S)) < 14 := by
  by_cases c : qK (xH X) = 14
  · rw [rm_14 c]
    show (qO (xH X) + 1) % 14 < 14
    omega
  · rw [rm_lt (by omega)]
    exact hO
theorem rm_K {X : Cx} (S : St) (hk : qK (xH X) ≤ 14) : qK (xH (rm X S)) = if qK (xH X) = 14 then 14 else qK (xH X) + 1 := by
  by_cases c : qK (xH X) = 14
  · rw [rm_14 c, if_pos c]
    show qK (xH X) - 1 + 1 = 14
    omega
  · rw [rm_lt (by omega), if_neg c]
    rfl
theorem rm_he {X : Cx} (S : St) (hO : qO (xH X) < 14) (hk : qK (xH X) ≤ 14) {i : Nat} (hi : i < qK (xH (rm X S))) : he (rm X S) i = hn X (i + if qK (xH X) = 14 then 1 else 0) := by
  rw [rm_K S hk] at hi
  by_cases c : qK (xH X) = 14
  · rw [if_pos c] at hi ⊢
    rw [he, rm_14 c, hn]
    show (if ((qO (xH X) + 1) % 14 + i) % 14 = ((qO (xH X) + 1) % 14 + (qK (xH X) - 1)) % 14 then xN X else qF (xH X) (((qO (xH X) + 1) % 14 + i) % 14)) = _
    by_cases e : i = 13
    · rw [if_pos (by omega), if_neg (by omega)]
    · rw [if_neg (by omega), if_pos (by omega), he]
      congr 1
      omega
  · rw [if_neg c] at hi ⊢
    rw [he, rm_lt (by omega), hn]
    show (if (qO (xH X) + i) % 14 = (qO (xH X) + qK (xH X)) % 14 then xN X else qF (xH X) ((qO (xH X) + i) % 14)) = _
    by_cases e : i = qK (xH X)
    · rw [if_pos (by rw [e]), if_neg (by omega)]
    · rw [if_neg (by omega), if_pos (by omega)]
      rfl
theorem rm_hn {X : Cx} (S : St) (hO : qO (xH X) < 14) (hk : qK (xH X) ≤ 14) (i : Nat) : hn (rm X S) i = if i < qK (xH (rm X S)) then hn X (i + if qK (xH X) = 14 then 1 else 0) else S := by
  rw [hn]
  by_cases c : i < qK (xH (rm X S))
  · rw [if_pos c, if_pos c, rm_he S hO hk c]
  · rw [if_neg c, if_neg c, rm_N]
theorem hn_K (X : Cx) : hn X (qK (xH X)) = xN X := if_neg (by omega)
theorem un_N (X : Cx) : xN (un X) = he X (qK (xH X) - 1) := rfl
theorem un_K (X : Cx) : qK (xH (un X)) = qK (xH X) - 1 := rfl
theorem un_O (X : Cx) : qO (xH (un X)) = qO (xH X) := rfl
theorem un_he (X : Cx) (i : Nat) : he (un X) i = he X i := rfl
theorem un_hn {X : Cx} (h : 0 < qK (xH X)) {i : Nat} (hi : i < qK (xH X)) : hn (un X) i = hn X i := by
  rw [hn, hn, un_K, un_N, if_pos hi]
  by_cases c : i < qK (xH X) - 1
  · rw [if_pos c]
    rfl
  · rw [if_neg c, show i = qK (xH X) - 1 by omega]
theorem rm_pos {X : Cx} (S : St) (hk : qK (xH X) ≤ 14) : 0 < qK (xH (rm X S)) := by
  rw [rm_K S hk]
  split <;> omega
theorem un_rm {X : Cx} (S : St) (hO : qO (xH X) < 14) (hk : qK (xH X) ≤ 14) : xN (un (rm X S)) = xN X := by
  have hp := rm_pos S hk
  have hK := rm_K S hk
  rw [un_N, rm_he S hO hk (by omega)]
  rw [show qK (xH (rm X S)) - 1 + (if qK (xH X) = 14 then 1 else 0) = qK (xH X) by
    rw [hK]
    split <;> omega]
  exact hn_K X
theorem un_rm2 {X : Cx} (S1 S2 : St) (hO : qO (xH X) < 14) (hk : qK (xH X) ≤ 14) : xN (un (un (rm (rm X S1) S2))) = xN X := by
  have hO1 := rm_O S1 hO hk
  have hK1 := rm_K S1 hk
  have hk1 : qK (xH (rm X S1)) ≤ 14 := by rw [hK1]; split <;> omega
  have hK2 := rm_K (X := rm X S1) S2 hk1
  have hp1 := rm_pos S1 hk
  have e1 := un_rm S1 hO hk
  rw [un_N] at e1
  rw [un_N, un_K, un_he]
  by_cases c1 : qK (xH (rm X S1)) = 14
  · rw [if_pos c1] at hK2
    rw [hK2, rm_he S2 hO1 hk1 (by omega), if_pos c1]
    rw [c1] at e1
    rw [hn, if_pos (by omega)]
    exact e1
  · rw [if_neg c1] at hK2
    rw [hK2, rm_he S2 hO1 hk1 (by omega), if_neg c1, hn, if_pos (by omega)]
    rw [show qK (xH (rm X S1)) + 1 - 1 - 1 + 0 = qK (xH (rm X S1)) - 1 by omega]
    exact e1
/-- cars come one by one: what is remembered has at most one less than what comes next -/
def Ch (X : Cx) : Prop := 2 ≤ nm (xN X) ∧ (∀ i, i < qK (xH X) → nm (hn X (i + 1)) ≤ nm (hn X i) + 1) ∧ ∀ j, j < 2 → ¬ vB (xS X) j = 0 → 2 ≤ nm (vF (xS X) j)
theorem Ch.yR {X : Cx} (h : Ch X) (T : St) : Ch (yR X T) := h
theorem Ch.rmb {X : Cx} (h : Ch X) {S : St} (hO : qO (xH X) < 14) (hk : qK (xH X) ≤ 14) (h2 : 2 ≤ nm S) (h1 : nm S ≤ nm (xN X) + 1) : Ch (rm X S) := by
  refine ⟨h2, fun i hi => ?_, h.2.2⟩
  have hK := rm_K S hk
  rw [rm_hn S hO hk i, rm_hn S hO hk (i + 1), if_pos hi]
  by_cases c : i + 1 < qK (xH (rm X S))
  · rw [if_pos c]
    have := h.2.1 (i + if qK (xH X) = 14 then 1 else 0) (by
      rw [hK] at c
      split at c <;> rename_i z
      · rw [if_pos z]; omega
      · rw [if_neg z]; omega)
    rw [show i + 1 + (if qK (xH X) = 14 then 1 else 0) = i + (if qK (xH X) = 14 then 1 else 0) + 1 by omega]
    exact this
  · rw [if_neg c]
    have e : hn X (i + if qK (xH X) = 14 then 1 else 0) = xN X := by
      rw [hn, if_neg]
      rw [hK] at c
      split at c <;> rename_i z
      · rw [if_pos z]; omega
      · rw [if_neg z]; omega
    rw [e]
    exact h1
theorem Ch.unb {X : Cx} (h : Ch X) (h0 : 0 < qK (xH X)) (h2 : 2 ≤ nm (xN (un X))) : Ch (un X) := by
  refine ⟨h2, fun i hi => ?_, h.2.2⟩
  rw [un_K] at hi
  rw [un_hn h0 (by omega), un_hn h0 (by omega)]
  exact h.2.1 i (by omega)
theorem Ch.un3 {X : Cx} (h : Ch X) (h0 : 0 < qK (xH X)) (h3 : 3 ≤ nm (xN X)) : Ch (un X) := by
  refine h.unb h0 ?_
  have h1 := h.2.1 (qK (xH X) - 1) (by omega)
  rw [show qK (xH X) - 1 + 1 = qK (xH X) by omega, hn_K, hn, if_pos (by omega)] at h1
  rw [un_N]
  omega
theorem nm_gm {X : Cx} {M : Mo} (h : RelX X M) : nm (xN X) = gm (mN M) := by
  have hm := h.nw.2.ri.m
  rw [nm, ← h.nw.1.1.1, hm.1, nI_clamp (by omega)]
/-! an operation at both objects -/
def rvE (E1 E2 : Int32) (q : Int32 × Mo) : Int32 := if mA q.2 = 0 then q.1 else if mA q.2 = 1 then E1 else E2
theorem ok_pv {E1 E2 : String} {h : String ⊕ (Int32 × Cx)} {X : Cx} {q : Int32 × Mo} (ho : OpOk RelX E1 h X q) (th : ∀ E, h = .inl E → E = E1 ∨ E = E2) : pv h X = (rvE (cd E1) (cd E2) q, (pv h X).2) ∧ RelX (pv h X).2 q.2 := by
  rcases ho with ⟨X1, e, ha, hp⟩ | ⟨E, e, ha, hp⟩
  · rw [e, rvE, if_pos ha]
    exact ⟨rfl, hp⟩
  · have e1 : (pv h X).2 = X := by rw [e]; rfl
    have e2 : pv h X = (cd E, X) := by rw [e]; rfl
    refine ⟨?_, by rw [e1]; exact hp⟩
    rw [e1, e2, rvE]
    by_cases c : E = E1
    · rw [if_pos c] at ha
      rw [if_neg (by rw [ha]; decide), if_pos ha, c]
    · rw [if_neg c] at ha
      have c2 : E = E2 := (th E e).elim (fun z => absurd z c) id
      rw [if_neg (by rw [ha]; decide), if_neg (by rw [ha]; decide), c2]
theorem ok_inr {E1 : String} {h : String ⊕ (Int32 × Cx)} {X X1 : Cx} {v : Int32} {q : Int32 × Mo} (ho : OpOk RelX E1 h X q) (e : h = .inr (v, X1)) : RelX X1 q.2 ∧ v = q.1 := by
  rcases ho with ⟨X2, e2, -, hp⟩ | ⟨E, e2, -⟩
  · have e3 := Sum.inr.inj (e.symm.trans e2)
    have e4 := congrArg Prod.fst e3
    have e5 := congrArg Prod.snd e3
    exact ⟨by rw [show X1 = X2 from e5]; exact hp, e4⟩
  · rw [e] at e2
    cases e2
theorem ac_come {X : Cx} {M : Mo} (h : RelX X M) (h40 : gm (mN M) < 40) {j t : Nat} (hj : 2 ≤ j ∧ j ≤ 8) (ht : 1 ≤ t ∧ t ≤ 99) : pv (h_X6_come X (nI j) (nI t)) X = (nI (gm (mN M)), rm X (h_X4_arrive (xN X) (nI j) (nI t)).2) ∧ RelX (rm X (h_X4_arrive (xN X) (nI j) (nI t)).2) (h_X7_come M (nI j) (nI t)).2 ∧ mN (h_X7_come M (nI j) (nI t)).2 = (h_X7_comeOn (mN M) (nI j) (nI t)).2 := by
  have hm := h.nw.2.ri.m
  have hst : ¬ f_X6_isStay (nI t) = 0 := by
    rw [f_X6_isStay, if_neg (show ¬ nI t < (1 : Int32) from nI_nlt (a := t) (b := 1) ht.1 (by omega)), if_neg (show ¬ (99 : Int32) < nI t from nI_nlt (a := 99) (b := t) ht.2 (by omega))]
    decide
  have hal : f_X4_allCame (xN X) = 0 := by
    rw [f_X4_allCame, ← h.nw.1.1.1, hm.1, if_pos (show nI (gm (mN M)) < (40 : Int32) from nI_lt (b := 40) h40 (by omega))]
  have e : h_X6_come X (nI j) (nI t) = .inr ((h_X4_arrive (xN X) (nI j) (nI t)).1, rm X (h_X4_arrive (xN X) (nI j) (nI t)).2) := by
    rw [h_X6_come, if_neg (len_yes hj), if_neg hst, if_pos hal, xN_1]
    rfl
  have hl : ¬ f_X7_isLength (nI j) = 0 := fun z => len_yes hj ((rq_len (nI j)).mpr z)
  have h40' : ¬ (40 : Int32) ≤ mN M 0 := by
    rw [hm.1]
    exact nI_ge (b := 40) h40 (by omega)
  have eM : h_X7_come M (nI j) (nI t) = ((h_X7_comeOn (mN M) (nI j) (nI t)).1, oN (h_X7_remember (h_X7_refused M 0).2) (h_X7_comeOn (mN M) (nI j) (nI t)).2) := by
    rw [h_X7_come, if_neg hl, ← stay_eq, if_neg hst, if_neg h40', mN_1]
  obtain ⟨r, v⟩ := ok_inr (o_come (nI j) (nI t) h) e
  refine ⟨?_, r, by rw [eM]; rfl⟩
  rw [e]
  show ((h_X4_arrive (xN X) (nI j) (nI t)).1, _) = _
  rw [v, eM]
  rfl
theorem mnt_yes {p : Nat} (hp : 1 ≤ p ∧ p ≤ 60) : ¬ f_X6_isMinutes (nI p) = 0 := by
  rw [f_X6_isMinutes, if_neg (show ¬ nI p < (1 : Int32) from nI_nlt (a := p) (b := 1) hp.1 (by omega)), if_neg (show ¬ (60 : Int32) < nI p from nI_nlt (a := 60) (b := p) hp.2 (by omega))]
  decide
theorem ac_min {X : Cx} {M : Mo} (h : RelX X M) {p : Nat} (hp : 1 ≤ p ∧ p ≤ 60) : pv (h_X6_minutes X (nI p)) X = ((h_X7_minutesOn (mN M) (nI p)).1, rm X (h_X4_passMinutes (xN X) (nI p)).2) ∧ RelX (rm X (h_X4_passMinutes (xN X) (nI p)).2) (h_X7_minutes M (nI p)).2 ∧ mN (h_X7_minutes M (nI p)).2 = (h_X7_minutesOn (mN M) (nI p)).2 := by
  have e : h_X6_minutes X (nI p) = .inr ((h_X4_passMinutes (xN X) (nI p)).1, rm X (h_X4_passMinutes (xN X) (nI p)).2) := by
    rw [h_X6_minutes, if_neg (mnt_yes hp), xN_1]
    rfl
  have eM : h_X7_minutes M (nI p) = ((h_X7_minutesOn (mN M) (nI p)).1, oN (h_X7_remember (h_X7_refused M 0).2) (h_X7_minutesOn (mN M) (nI p)).2) := by
    rw [h_X7_minutes, ← minutes_eq, if_neg (mnt_yes hp), mN_1]
  obtain ⟨r, v⟩ := ok_inr (o_minutes (nI p) h) e
  refine ⟨?_, r, by rw [eM]; rfl⟩
  rw [e]
  show ((h_X4_passMinutes (xN X) (nI p)).1, _) = _
  rw [v, eM]
theorem min_pos {X : Cx} {M : Mo} (h : RelX X M) {p : Nat} (hp : 1 ≤ p ∧ p ≤ 60) : ¬ (h_X7_minutesOn (mN M) (nI p)).1 < 0 := by
  obtain ⟨b, hb, e⟩ := mins_n (m := p) (by omega) (p + 1) 0 0 _ _ h.nw.1 h.nw.2
  have e2 : (h_X7_minutesOn (mN M) (nI p)).1 = nI b := by
    rw [h_X7_minutesOn, nI_clamp (by omega)]
    exact e
  rw [e2]
  exact nI_pos (by omega)
theorem ac_undo {X : Cx} {M : Mo} (h : RelX X M) (h0 : 0 < qK (xH X)) : pv (h_X6_undo X) X = (nI (qK (xH X) - 1), un X) ∧ RelX (un X) (h_X7_undo M).2 := by
  have hk := h.hk
  have e0 : f_X0_isEmpty (xH X) = 0 := by
    rw [f_X0_isEmpty, if_pos]
    exact nI_lt (a := 0) h0 (by omega)
  have e0' : f_X0_isEmpty (hH (xH X, xN X)) = 0 := e0
  have e : h_X6_undo X = .inr (nI (qK (xH X) - 1), un X) := by
    rw [h_X6_undo, if_pos e0, h_X0_takeBack, if_pos e0']
    rfl
  exact ⟨by rw [e]; rfl, (ok_inr (o_undo h) e).1⟩
theorem ac_move {X : Cx} {M : Mo} (h : RelX X M) {c x : Nat} (hc : c < gm (mN M)) (hx : x < 80) (hm : ¬ f_X7_canMove (mN M) c x = 0) : pv (h_X6_move X (nI c) (nI x)) X = (nI (dist (px (mN M) c) x), rm X (h_X4_shift (xN X) (nI c) (nI x)).2) ∧ RelX (rm X (h_X4_shift (xN X) (nI c) (nI x)).2) (h_X7_move M (nI c) (nI x)).2 ∧ mN (h_X7_move M (nI c) (nI x)).2 = (h_X7_moveOn (mN M) c x).2 := by
  have hm4 := h.nw.2.ri.m.2
  have e : h_X6_move X (nI c) (nI x) = .inr ((h_X4_shift (xN X) (nI c) (nI x)).1, rm X (h_X4_shift (xN X) (nI c) (nI x)).2) := by
    rw [h_X6_move, if_neg (rq_yes h hc), if_neg (cell_yes hx), if_neg (by rw [shift_eq h.nw.1 h.nw.2.ri (by omega) hx]; exact hm), xN_1]
    rfl
  have hcar : ¬ f_X7_isCar (mN M) (nI c) = 0 := by rw [isCar_n h.nw.2.ri hc]; decide
  have hcl : ¬ f_X7_isCell (nI x) = 0 := fun z => cell_yes hx ((rq_cell (nI x)).mpr z)
  have eM : h_X7_move M (nI c) (nI x) = ((h_X7_moveOn (mN M) c x).1, oN (h_X7_remember (h_X7_refused M 0).2) (h_X7_moveOn (mN M) c x).2) := by
    rw [h_X7_move, if_neg hcar, if_neg hcl, nI_clamp (show c < 2 ^ 31 by omega), nI_clamp (show x < 2 ^ 31 by omega), if_neg hm, mN_1]
  obtain ⟨r, v⟩ := ok_inr (o_move (nI c) (nI x) h) e
  obtain ⟨-, hp, -⟩ := move_cells h.nw.2.ri (show c < 2 ^ 31 by omega) hx hm
  have hpx := (h.nw.2.ri.X hc hp).2.2
  refine ⟨?_, r, by rw [eM]; rfl⟩
  rw [e]
  show ((h_X4_shift (xN X) (nI c) (nI x)).1, _) = _
  rw [v, eM]
  show ((h_X7_moveOn (mN M) c x).1, _) = _
  rw [moveOn_1 rfl (by omega) (by omega)]
