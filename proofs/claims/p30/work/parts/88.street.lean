/-! what is told on a street, and told again -/
theorem sm_le {f : Nat → Nat} {b : Nat} : ∀ n, (∀ i, i < n → f i ≤ b) → sm f n ≤ n * b := by
  intro n
  induction n with
  | zero => intro _; exact Nat.zero_le _
  | succ n ih =>
    intro h
    have e : sm f (n + 1) = sm f n + f n := rfl
    have h1 := ih (fun i hi => h i (by omega))
    have h2 := h n (by omega)
    rw [e, Nat.succ_mul]
    omega
theorem nf_le (g : Rw) {j : Nat} (hj : 2 ≤ j) : nf g j ≤ 6400 := by
  have h := sm_le (f := cnt g j (cO g)) (b := 80) 80 (fun i hi => by
    rw [cnt]
    split
    · have h1 := cells_le g (j := i) (by omega)
      have h2 := Nat.div_le_self (f_X7_gapCells g i - cO g) j
      omega
    · exact Nat.zero_le _)
  exact h
theorem isC_le (g : Rw) (m : Int32) : sm (isC g m) 80 ≤ 80 := sm_le (b := 1) 80 (fun i _ => by
  rw [isC]
  split <;> omega)
/-- where a car would park -/
def pl (g : Rw) (j : Nat) : Int32 := (h_X7_placeFor g (nI j)).1
/-- 1 where there is no place -/
def np (g : Rw) (j a b : Nat) : Nat := if pl g j = -1 then a else b
theorem gm_N {X X' : Cx} {M M' : Mo} (h : RelX X M) (h' : RelX X' M') (e : xN X' = xN X) : gm (mN M') = gm (mN M) := by rw [← nm_gm h', ← nm_gm h, e]
theorem pl_N {X X' : Cx} {M M' : Mo} (h : RelX X M) (h' : RelX X' M') (e : xN X' = xN X) {j : Nat} (hj : 2 ≤ j ∧ j ≤ 8) : pl (mN M') j = pl (mN M) j := by
  have a := place_eq h.nw.1 h.nw.2.ri (j := j) ⟨by omega, hj.2⟩
  have b := place_eq h'.nw.1 h'.nw.2.ri (j := j) ⟨by omega, hj.2⟩
  rw [e] at b
  exact b.symm.trans a
theorem free_N {X X' : Cx} {M M' : Mo} (h : RelX X M) (h' : RelX X' M') (e : xN X' = xN X) : nI (sm (isC (mN M') (-1)) 80) = nI (sm (isC (mN M) (-1)) 80) := by
  have a := with_eq h.nw.1 (-1)
  have b := with_eq h'.nw.1 (-1)
  rw [with_sm] at a b
  rw [e] at b
  exact b.symm.trans a
theorem at_N {X X' : Cx} {M M' : Mo} (h : RelX X M) (h' : RelX X' M') (e : xN X' = xN X) {c : Nat} (hc : c < gm (mN M)) : f_X7_of (mN M') c 3 = f_X7_of (mN M) c 3 := by
  have a := (h.nw.1.2.2.1 c hc).2.2.2.1
  have b := (h'.nw.1.2.2.1 c (by rw [gm_N h h' e]; exact hc)).2.2.2.1
  rw [e] at b
  exact b.trans a.symm
theorem ut_1 (X : Cx) : ut X 1 = un X := by rw [ut, if_neg (by omega), if_pos (by omega)]
theorem un2_1 : un2 1 = 1 := by rw [un2, if_neg (by omega), if_pos (by omega)]
/-! waiting, and taking it back -/
theorem ww {X : Cx} {M : Mo} (h : RelX X M) (hc : Ch X) {k : Nat} (hk : k ≤ 100) : RelX (ut (wt X k) k) (utM (wtM M k) k) ∧ Ch (ut (wt X k) k) ∧ xN (ut (wt X k) k) = xN X := by
  have e := ut_wt (k := k) h.ho h.hk
  refine ⟨ut_R (wt_R h hk) (wt_K h.hk), ?_, e⟩
  have hw := wt_Ch h hc hk
  have hK := wt_K (X := X) (k := k) h.hk
  have h2 := hc.1
  by_cases c1 : k = 0
  · rw [ut, if_pos c1, wt, if_pos c1]
    exact hc
  · by_cases c2 : k ≤ 60
    · rw [un2, if_neg c1, if_pos c2] at hK
      rw [ut, if_neg c1, if_pos c2] at e ⊢
      exact hw.unb hK (by rw [e]; exact h2)
    · rw [un2, if_neg c1, if_neg c2] at hK
      rw [ut, if_neg c1, if_neg c2] at e ⊢
      have hA := wt_R h (k := 60) (by omega)
      have hB := wt_Ch h hc (k := 60) (by omega)
      have e3 : ∃ S, wt X k = rm (wt X 60) S := ⟨_, by rw [wt, if_neg c1, if_neg c2, wt_60 (p := 60) (by omega)]⟩
      have h3 : 2 ≤ nm (xN (un (wt X k))) := by
        obtain ⟨S, e3⟩ := e3
        rw [e3, un_rm _ hA.ho hA.hk]
        exact hB.1
      exact (hw.unb (by omega) h3).unb (by rw [un_K]; omega) (by rw [e]; exact h2)
theorem why_wt {X : Cx} {M : Mo} (h : RelX X M) {k j : Nat} (hk : k ≤ 100) (hj : 2 ≤ j ∧ j ≤ 8) : wy (mN (wtM M k)) j = 0 ↔ f_X4_reasonAgainst (mk k (xN X)) (nI j) = 0 := by rw [← reason_0 (wt_R h hk) hj, wt_N hk]
theorem gw_no {S : St} {j : Nat} (h : gw S j = -1) {i : Nat} (hi : i ≤ 100) : ¬ f_X4_reasonAgainst (mk i S) (nI j) = 0 := by
  rcases gw_spec S j with ⟨-, z⟩ | ⟨k, hk, e, -⟩
  · exact z i hi
  · rw [e] at h
    exact absurd h (nI_m1 (by omega))
theorem gw_yes {S : St} {j : Nat} (h : ¬ gw S j = -1) : ∃ k, k ≤ 100 ∧ gw S j = nI k ∧ f_X4_reasonAgainst (mk k S) (nI j) = 0 ∧ ∀ i, i < k → ¬ f_X4_reasonAgainst (mk i S) (nI j) = 0 := by
  rcases gw_spec S j with ⟨z, -⟩ | z
  · exact absurd z h
  · exact z
/-- a gap at once, when nothing is against it -/
theorem gw_0 {X : Cx} {M : Mo} (h : RelX X M) {j : Nat} (hj : 2 ≤ j ∧ j ≤ 8) : gw (xN X) j = 0 ↔ wy (mN M) j = 0 := by
  rw [← reason_0 h hj]
  have hm : mk 0 (xN X) = xN X := rfl
  rcases gw_spec (xN X) j with ⟨e, z⟩ | ⟨k, hk, e, h0, hz⟩
  · have := z 0 (by omega)
    rw [hm] at this
    rw [e]
    exact ⟨fun w => absurd w (by decide), fun w => absurd w this⟩
  · rw [e]
    constructor
    · intro w
      have : k = 0 := nI_inj (b := 0) (by omega) (by omega) w
      rw [this, hm] at h0
      exact h0
    · intro w
      rcases Nat.eq_zero_or_pos k with y | y
      · rw [y]
        rfl
      · exact absurd w (hz 0 y)
/-! a car that comes, and is taken back -/
def cX (X : Cx) (j : Nat) : Cx := rm X (h_X4_arrive (xN X) (nI j) (nI 9)).2
def cM (M : Mo) (j : Nat) : Mo := (h_X7_come M (nI j) (nI 9)).2
theorem come_X {X : Cx} {M : Mo} (h : RelX X M) (hc : Ch X) (h40 : gm (mN M) < 40) {j : Nat} (hj : 2 ≤ j ∧ j ≤ 8) : pv (h_X6_come X (nI j) 9) X = (nI (gm (mN M)), cX X j) ∧ RelX (cX X j) (cM M j) ∧ 0 < qK (xH (cX X j)) ∧ RelX (un (cX X j)) (h_X7_undo (cM M j)).2 ∧ Ch (un (cX X j)) ∧ xN (un (cX X j)) = xN X := by
  have a := ac_come h h40 hj (t := 9) (by omega)
  have c : Ch (cX X j) := hc.rmb h.ho h.hk (Nat.le_trans hc.1 (nm_come h (nI j) (nI 9)).1) (nm_come h (nI j) (nI 9)).2
  have e : xN (un (cX X j)) = xN X := un_rm _ h.ho h.hk
  have p : 0 < qK (xH (cX X j)) := rm_pos _ h.hk
  have h2 := hc.1
  exact ⟨a.1, a.2.1, p, (ac_undo a.2.1 p).2, c.unb p (by rw [e]; exact h2), e⟩
theorem come_r {X : Cx} {M : Mo} (h : RelX X M) (h40 : gm (mN M) < 40) {j : Nat} (hj : 2 ≤ j ∧ j ≤ 8) : pv (h_X6_carOf (cX X j) (nI (gm (mN M))) 3) (cX X j) = (pl (mN M) j, cX X j) ∧ pv (h_X6_carOf (cX X j) (nI (gm (mN M))) 2) (cX X j) = (nI (np (mN M) j 1 0), cX X j) ∧ pv (h_X6_about (cX X j) 9) (cX X j) = (nI (sm (isC (mN M) (-1)) 80 - np (mN M) j 0 j), cX X j) ∧ np (mN M) j 0 j ≤ sm (isC (mN M) (-1)) 80 ∧ pv (h_X6_fits (cX X j) (nI j) 1) (cX X j) = (nI (nf (mN (cM M j)) j), cX X j) ∧ nf (mN (cM M j)) j + np (mN M) j 0 1 ≤ nf (mN M) j := by
  have a := ac_come h h40 hj (t := 9) (by omega)
  have r : RelX (cX X j) (cM M j) := a.2.1
  have eM : mN (cM M j) = (h_X7_comeOn (mN M) (nI j) (nI 9)).2 := a.2.2
  obtain ⟨f1, f2, f3, f4, f5⟩ := come_facts h.nw.2 h40 hj (t := 9)
  rw [← eM] at f1 f2 f3 f4 f5
  have hb : gm (mN M) < gm (mN (cM M j)) := by omega
  have r3 := rd_car3 r hb
  have r2 := rd_car2 r hb
  have r9 := rd_ab9 r
  rw [f2] at r3
  rw [f3] at r2
  refine ⟨r3, r2, ?_, ?_, rd_fits1 r hj, f5⟩
  · have e4 : sm (isC (mN M) (-1)) 80 - np (mN M) j 0 j = sm (isC (mN (cM M j)) (-1)) 80 := by
      have : sm (isC (mN (cM M j)) (-1)) 80 + np (mN M) j 0 j = sm (isC (mN M) (-1)) 80 := f4
      omega
    rw [e4]
    exact r9
  · have : sm (isC (mN (cM M j)) (-1)) 80 + np (mN M) j 0 j = sm (isC (mN M) (-1)) 80 := f4
    omega
/-! a car that is moved, and taken back -/
def vX (X : Cx) (c x : Nat) : Cx := rm X (h_X4_shift (xN X) (nI c) (nI x)).2
def vM (M : Mo) (c x : Nat) : Mo := (h_X7_move M (nI c) (nI x)).2
theorem move_X {X : Cx} {M : Mo} (h : RelX X M) (hc : Ch X) {c x : Nat} (hcm : c < gm (mN M)) (hx : x < 80) (hm : ¬ f_X7_canMove (mN M) c x = 0) : pv (h_X6_move X (nI c) (nI x)) X = (nI (dist (px (mN M) c) x), vX X c x) ∧ RelX (vX X c x) (vM M c x) ∧ 0 < qK (xH (vX X c x)) ∧ RelX (un (vX X c x)) (h_X7_undo (vM M c x)).2 ∧ Ch (un (vX X c x)) ∧ xN (un (vX X c x)) = xN X := by
  have a := ac_move h hcm hx hm
  have k : Ch (vX X c x) := hc.same h.ho h.hk (N_shift _ _ _)
  have e : xN (un (vX X c x)) = xN X := un_rm _ h.ho h.hk
  have p : 0 < qK (xH (vX X c x)) := rm_pos _ h.hk
  have h2 := hc.1
  exact ⟨a.1, a.2.1, p, (ac_undo a.2.1 p).2, k.unb p (by rw [e]; exact h2), e⟩
theorem move_r {X : Cx} {M : Mo} (h : RelX X M) {c x : Nat} (hcm : c < gm (mN M)) (hx : x < 80) (hm : ¬ f_X7_canMove (mN M) c x = 0) : pv (h_X6_carOf (vX X c x) (nI c) 3) (vX X c x) = (nI x, vX X c x) ∧ mN (vM M c x) = (h_X7_moveOn (mN M) c x).2 := by
  have a := ac_move h hcm hx hm
  have r : RelX (vX X c x) (vM M c x) := a.2.1
  have eM : mN (vM M c x) = (h_X7_moveOn (mN M) c x).2 := a.2.2
  obtain ⟨f1, f2, -, -⟩ := move_row h.nw.2 hcm hx hm
  rw [← eM] at f1 f2
  have r3 := rd_car3 r (c := c) (by omega)
  rw [f2] at r3
  exact ⟨r3, eM⟩
theorem und_q {X : Cx} {M : Mo} (h : RelX X M) (h0 : 0 < qK (xH X)) : pv (h_X6_undo X) X = (nI (qK (xH X) - 1), un X) := (ac_undo h h0).1
/-- a car that is at a place is parked -/
theorem at_pk {g : Rw} (h : Inv g) {c : Nat} (hc : c < gm g) (ha : ¬ f_X7_of g c 3 = -1) : f_X7_of g c 2 = 0 := by
  obtain ⟨-, -, -, -, -, z, -, y⟩ := h.car hc
  exact y.mpr (Decidable.byContradiction fun w => ha (z w))
theorem mvv_no {X : Cx} {M : Mo} (h : RelX X M) {c x : Nat} (hc : c < gm (mN M)) (hx : x < 80) (hm : f_X7_canMove (mN M) c x = 0) : pv (h_X6_move X (nI c) (nI x)) X = (-9999003, X) := no_move_s h hc hx hm
/-! sums over cars and cells -/
theorem sm_add (f f' : Nat → Nat) : ∀ n, sm (fun i => f i + f' i) n = sm f n + sm f' n := by
  intro n
  induction n with
  | zero => rfl
  | succ n ih =>
    have e1 : sm (fun i => f i + f' i) (n + 1) = sm (fun i => f i + f' i) n + (f n + f' n) := rfl
    have e2 : sm f (n + 1) = sm f n + f n := rfl
    have e3 : sm f' (n + 1) = sm f' n + f' n := rfl
    omega
theorem sm_const (b : Nat) : ∀ n, sm (fun _ => b) n = n * b := by
  intro n
  induction n with
  | zero => exact (Nat.zero_mul b).symm
  | succ n ih =>
    have e1 : sm (fun _ => b) (n + 1) = sm (fun _ => b) n + b := rfl
    rw [e1, ih, Nat.succ_mul]
theorem sm_swap (f : Nat → Nat → Nat) (n : Nat) : ∀ m, sm (fun c => sm (fun y => f c y) n) m = sm (fun y => sm (fun c => f c y) m) n := by
  intro m
  induction m with
  | zero =>
    have e : sm (fun y => sm (fun c => f c y) 0) n = n * 0 := sm_const 0 n
    rw [e]
    rfl
  | succ m ih =>
    have e1 : sm (fun c => sm (fun y => f c y) n) (m + 1) = sm (fun c => sm (fun y => f c y) n) m + sm (fun y => f m y) n := rfl
    have e2 : (fun y => sm (fun c => f c y) (m + 1)) = fun y => (fun y => sm (fun c => f c y) m) y + (fun y => f m y) y := rfl
    rw [e1, ih, e2, sm_add]
theorem cars_5 {g : Rw} (h : Inv g) : sm (isT g 0) (gm g) + sm (isT g 1) (gm g) + sm (isT g 2) (gm g) + sm (isT g 3) (gm g) + sm (isT g 4) (gm g) = gm g := by
  have e : sm (fun c => isT g 0 c + isT g 1 c + isT g 2 c + isT g 3 c + isT g 4 c) (gm g) = sm (fun _ => 1) (gm g) := sm_cong (gm g) (fun c hc => by
    obtain ⟨-, ⟨-, l⟩, -⟩ := h.car hc
    show isT g 0 c + isT g 1 c + isT g 2 c + isT g 3 c + isT g 4 c = 1
    rw [isT, isT, isT, isT, isT]
    split <;> split <;> split <;> split <;> split <;> omega)
  have e1 := sm_add (fun c => isT g 0 c + isT g 1 c + isT g 2 c + isT g 3 c) (isT g 4) (gm g)
  have e2 := sm_add (fun c => isT g 0 c + isT g 1 c + isT g 2 c) (isT g 3) (gm g)
  have e3 := sm_add (fun c => isT g 0 c + isT g 1 c) (isT g 2) (gm g)
  have e4 := sm_add (isT g 0) (isT g 1) (gm g)
  have e5 := sm_const 1 (gm g)
  omega
/-- the length of a parked car, else 0 -/
def lk (g : Rw) (c : Nat) : Nat := if nwT g c = 0 then pj g c else 0
/-- car c is on cell y -/
def onC (g : Rw) (c y : Nat) : Nat := if g (7 + y) = nI c then 1 else 0
theorem sm_block {x j : Nat} : ∀ n, x + j ≤ n → sm (fun y => if x ≤ y ∧ y < x + j then 1 else 0) n = j := by
  intro n hn
  have e1 := sm_skip (f := fun y => if x ≤ y ∧ y < x + j then 1 else 0) (a := 0) x (fun i _ h2 => if_neg (by omega))
  have e2 := sm_ones (f := fun y => if x ≤ y ∧ y < x + j then 1 else 0) (a := x) j (fun i h1 h2 => if_pos ⟨h1, h2⟩)
  have e3 := sm_skip (f := fun y => if x ≤ y ∧ y < x + j then 1 else 0) (a := x + j) (n - (x + j)) (fun i h1 _ => if_neg (by omega))
  rw [Nat.zero_add] at e1
  have e0 : sm (fun y => if x ≤ y ∧ y < x + j then 1 else 0) 0 = 0 := rfl
  rw [show x + j + (n - (x + j)) = n by omega] at e3
  omega
theorem onC_lk {g : Rw} (h : Inv g) {c : Nat} (hc : c < gm g) : sm (onC g c) 80 = lk g c := by
  obtain ⟨-, -, -, -, -, -, -, z⟩ := h.car hc
  have hm := h.ri.m.2
  rw [lk]
  by_cases c0 : nwT g c = 0
  · obtain ⟨e3, e0, h8⟩ := h.ri.X hc (z.mpr c0)
    rw [if_pos c0, ← sm_block (x := px g c) (j := pj g c) 80 h8]
    refine sm_cong 80 (fun y hy => ?_)
    show onC g c y = if px g c ≤ y ∧ y < px g c + pj g c then 1 else 0
    rw [onC]
    by_cases w : px g c ≤ y ∧ y < px g c + pj g c
    · rw [if_pos w, if_pos (h.pc c hc (z.mpr c0) y w)]
    · rw [if_neg w, if_neg]
      intro ey
      rcases h.cc y hy with q | q | ⟨d, hd, hs, ed, hr⟩
      · exact nI_m1 (by omega) (ey.symm.trans q)
      · exact absurd (nI_inj (a := c) (b := 100) (by omega) (by omega) (ey.symm.trans q)) (by omega)
      · have : c = d := nI_inj (by omega) (by omega) (ey.symm.trans ed)
        subst this
        exact w hr
  · rw [if_neg c0]
    have e := sm_cong (f := fun _ => 0) (f' := onC g c) 80 (fun y hy => by
      show onC g c y = 0
      rw [onC, if_neg]
      intro ey
      rcases h.cc y hy with q | q | ⟨d, hd, hs, ed, hr⟩
      · exact nI_m1 (by omega) (ey.symm.trans q)
      · exact absurd (nI_inj (a := c) (b := 100) (by omega) (by omega) (ey.symm.trans q)) (by omega)
      · have : c = d := nI_inj (by omega) (by omega) (ey.symm.trans ed)
        subst this
        exact c0 (z.mp hs))
    rw [e, sm_const]
theorem one_c {m d : Nat} (hd : d < m) : sm (fun c => if d = c then 1 else 0) m = 1 := by
  have e1 := sm_skip (f := fun c => if d = c then 1 else 0) (a := 0) d (fun i _ h2 => if_neg (by omega))
  have e2 := sm_ones (f := fun c => if d = c then 1 else 0) (a := d) 1 (fun i h1 h2 => if_pos (by omega))
  have e3 := sm_skip (f := fun c => if d = c then 1 else 0) (a := d + 1) (m - (d + 1)) (fun i h1 _ => if_neg (by omega))
  rw [Nat.zero_add] at e1
  have e0 : sm (fun c => if d = c then 1 else 0) 0 = 0 := rfl
  rw [show d + 1 + (m - (d + 1)) = m by omega] at e3
  omega
/-- free cells, cells of parked cars and cells with a hydrant are all -/
theorem cells_80 {g : Rw} (h : Inv g) : sm (isC g (-1)) 80 + sm (lk g) (gm g) + sm (isC g 100) 80 = 80 := by
  have hm := h.ri.m.2
  have e1 : sm (lk g) (gm g) = sm (fun c => sm (fun y => onC g c y) 80) (gm g) := sm_cong (gm g) (fun c hc => (onC_lk h hc).symm)
  rw [e1, sm_swap (onC g) 80 (gm g)]
  have e2 := sm_add (isC g (-1)) (fun y => sm (fun c => onC g c y) (gm g)) 80
  have e3 := sm_add (fun y => isC g (-1) y + sm (fun c => onC g c y) (gm g)) (isC g 100) 80
  have e4 : sm (fun y => isC g (-1) y + sm (fun c => onC g c y) (gm g) + isC g 100 y) 80 = sm (fun _ => 1) 80 := sm_cong 80 (fun y hy => by
    show isC g (-1) y + sm (fun c => onC g c y) (gm g) + isC g 100 y = 1
    have zero : (∀ c, c < gm g → ¬ g (7 + y) = nI c) → sm (fun c => onC g c y) (gm g) = 0 := fun w => by
      have e := sm_cong (f := fun _ => 0) (f' := fun c => onC g c y) (gm g) (fun c hc => if_neg (w c hc))
      rw [e, sm_const]
      rfl
    rw [isC, isC]
    rcases h.cc y hy with q | q | ⟨d, hd, hs, ed, hr⟩
    · rw [if_pos q, zero (fun c hc w => nI_m1 (by omega) (w.symm.trans q)), if_neg (by rw [q]; decide)]
    · rw [if_pos q, zero (fun c hc w => absurd (nI_inj (a := c) (b := 100) (by omega) (by omega) (w.symm.trans q)) (by omega)), if_neg (by rw [q]; decide)]
    · have e := sm_cong (f := fun c => if d = c then 1 else 0) (f' := fun c => onC g c y) (gm g) (fun c hc => by
        show onC g c y = if d = c then 1 else 0
        rw [onC, ed]
        by_cases w : d = c
        · rw [if_pos w, if_pos (congrArg nI w)]
        · rw [if_neg w, if_neg (fun v => w (nI_inj (by omega) (by omega) v))])
      rw [e, one_c hd, if_neg (fun w => nI_m1 (by omega) (ed.symm.trans w)), if_neg (show ¬ g (7 + y) = (100 : Int32) from fun w => absurd (nI_inj (a := d) (b := 100) (by omega) (by omega) (ed.symm.trans w)) (by omega))])
  have e5 := sm_const 1 80
  omega
/-! what the methods that ask need besides -/
theorem rd_mv {X : Cx} {M : Mo} (h : RelX X M) {j : Nat} (hj : 2 ≤ j ∧ j ≤ 8) : ∃ c0 t0 : Int32, pv (h_X6_mover X (nI j) 0) X = (c0, X) ∧ pv (h_X6_mover X (nI j) 1) X = (t0, X) ∧ (c0 = -1 → t0 = -1) ∧ (¬ c0 = -1 → ∃ c x, c0 = nI c ∧ t0 = nI x ∧ ¬ wy (mN M) j = 0 ∧ Mv (mN M) j c x) := by
  rcases rd_mov h hj with ⟨a, b⟩ | ⟨hw, c, x, a, b, hm⟩
  · exact ⟨-1, -1, a, b, fun _ => rfl, fun z => absurd rfl z⟩
  · have hc := (mv_can h.nw.2 hm).1
    have hm4 := h.nw.2.ri.m.2
    exact ⟨nI c, nI x, a, b, fun z => absurd z (nI_m1 (by omega)), fun _ => ⟨c, x, rfl, rfl, hw, hm⟩⟩
theorem mov_0 {X : Cx} {M : Mo} (h : RelX X M) {j : Nat} (hj : 2 ≤ j ∧ j ≤ 8) (hw : wy (mN M) j = 0) : pv (h_X6_mover X (nI j) 0) X = (-1, X) := by
  rcases rd_mov h hj with ⟨a, -⟩ | ⟨z, -⟩
  · exact a
  · exact absurd hw z
theorem low_more {g : Rw} {c p L B A w : Nat} (pk : Pk g c p L B A) (h1 : w ≤ p) (h2 : p ≤ w + B) (h0 : 0 < w) (hf : g (7 + (w - 1)) = -1) : p < w + B := by
  obtain ⟨a1, a2, fB, fA, mB, mA⟩ := pk.all
  rcases Nat.lt_or_ge p (w + B) with z | z
  · exact z
  · rcases mB with y | y
    · omega
    · rw [show p - B - 1 = w - 1 by omega] at y
      exact absurd hf y
theorem low_end {g : Rw} {c p L B A w : Nat} (pk : Pk g c p L B A) (h1 : w ≤ p) (h2 : p ≤ w + B) (hf : ¬ g (7 + (w - 1)) = -1) : p = w + B := by
  obtain ⟨a1, a2, fB, fA, mB, mA⟩ := pk.all
  rcases Nat.lt_or_ge p (w + B) with z | z
  · exact absurd (fB (w - 1) (by omega) (by omega)) hf
  · omega
theorem high_more {g : Rw} {c p L B A v : Nat} (pk : Pk g c p L B A) (h1 : p + L ≤ v) (h2 : v ≤ p + L + A) (h0 : v < 80) (hf : g (7 + v) = -1) : v < p + L + A := by
  obtain ⟨a1, a2, fB, fA, mB, mA⟩ := pk.all
  rcases Nat.lt_or_ge v (p + L + A) with z | z
  · exact z
  · rcases mA with y | y
    · omega
    · rw [show p + L + A = v by omega] at y
      exact absurd hf y
theorem high_end {g : Rw} {c p L B A v : Nat} (pk : Pk g c p L B A) (h1 : p + L ≤ v) (h2 : v ≤ p + L + A) (hf : ¬ g (7 + v) = -1) : v = p + L + A := by
  obtain ⟨a1, a2, fB, fA, mB, mA⟩ := pk.all
  rcases Nat.lt_or_ge v (p + L + A) with z | z
  · exact absurd (fA v (by omega) (by omega)) hf
  · omega
theorem m1_add {j : Nat} (h : 1 ≤ j) (h2 : j < 1000) : ¬ (-1 : Int32) + nI j ≤ -1 := fun z => by
  rw [Int32.le_iff_toInt_le, Int32.toInt_add, nI_toInt (by omega), show (-1 : Int32).toInt = -1 by decide, Int.bmod_eq_of_le (by omega) (by omega)] at z
  omega
theorem sm_s (f : Nat → Nat) (n : Nat) : sm f (n + 1) = sm f n + f n := rfl
theorem lk_p {g : Rw} {c : Nat} (h : nwT g c = 0) : lk g c = pj g c := by rw [lk, if_pos h]
theorem lk_n {g : Rw} {c : Nat} (h : ¬ nwT g c = 0) : lk g c = 0 := by rw [lk, if_neg h]
theorem isT_p {g : Rw} {s c : Nat} (h : nwT g c = s) : isT g s c = 1 := by rw [isT, if_pos h]
theorem isT_n {g : Rw} {s c : Nat} (h : ¬ nwT g c = s) : isT g s c = 0 := by rw [isT, if_neg h]
theorem lf_p {g : Rw} {c : Nat} (h : nwT g c = 0) : lf g c = nI (nwY g c - nwK g c) := by rw [lf, if_pos h]
theorem lf_n {g : Rw} {c : Nat} (h : ¬ nwT g c = 0) : lf g c = -1 := by rw [lf, if_neg h]
theorem gmx_p {g : Rw} {k : Nat} (h : gmx g k < gcl g k) : gmx g (k + 1) = gcl g k := by rw [gmx, if_pos h]
theorem gmx_n {g : Rw} {k : Nat} (h : ¬ gmx g k < gcl g k) : gmx g (k + 1) = gmx g k := by rw [gmx, if_neg h]
