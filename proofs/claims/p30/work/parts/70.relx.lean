theorem Rel.cong {S : St} {g g' : Rw} (h : Rel S g) (hm : gm g ≤ 40) (e : ∀ i, i < 327 → g' i = g i) : Rel S g' := by
  obtain ⟨⟨h0, h1, h2, h3, h4, h5⟩, hc8, hr, hg⟩ := h
  have eg : gm g' = gm g := gm_cong (e 0 (by omega))
  refine ⟨⟨(e 0 (by omega)).trans h0, (e 1 (by omega)).trans h1, (e 2 (by omega)).trans h2, (e 3 (by omega)).trans h3, (e 4 (by omega)).trans h4, (chance_cong (e 5 (by omega)) (e 6 (by omega))).trans h5⟩, fun x hx => (e _ (by omega)).trans (hc8 x hx), fun c hc => ?_, GapOk.cong (g := g) (fun i _ h8 => e i (by omega)) hg⟩
  rw [eg] at hc
  have o : ∀ w, w < 6 → f_X7_of g' c w = f_X7_of g c w := fun w hw => e _ (by omega)
  obtain ⟨r0, r1, r2, r3, r4, r5⟩ := hr c hc
  exact ⟨(o 0 (by omega)).trans r0, (o 1 (by omega)).trans r1, (o 2 (by omega)).trans r2, (o 3 (by omega)).trans r3, (o 4 (by omega)).trans r4, (o 5 (by omega)).trans r5⟩
theorem Inv.cong {g g' : Rw} (h : Inv g) (e : ∀ i, i < 327 → g' i = g i) : Inv g' := by
  have hm := h.ri.m.2
  exact h.same (e 0 (by omega)) (RI_cong h.ri e) (fun c hc => RKc_c (h.rk c hc) (e _ (by omega)) (e _ (by omega)) (e _ (by omega)) (e _ (by omega)) (e _ (by omega))) (fun c hc => ⟨e _ (by omega), e _ (by omega), e _ (by omega)⟩) (fun y hy => e _ (by omega)) (h.nu.c (e _ (by omega)) (e _ (by omega)))
/-- a street of the class and a row of the reference, all that is held of them -/
def RS (S : St) (g : Rw) : Prop := Rel S g ∧ Inv g
theorem RS.cong {S : St} {g g' : Rw} (h : RS S g) (e : ∀ i, i < 327 → g' i = g i) : RS S g' := ⟨h.1.cong h.2.ri.m.2 e, h.2.cong e⟩
/-- the two objects -/
def RelX (X : Cx) (M : Mo) : Prop :=
  (mZ M = nI (zz M)) ∧
  (zz M ≤ 120) ∧
  (tZ (xT X) = mZ M ∧ ∀ i, i < zz M → tL (xT X) i = mT M i) ∧
  (RS (xN X) (mN M)) ∧
  (qO (xH X) < 14) ∧
  (qK (xH X) ≤ 14) ∧
  (mC M = nI (qK (xH X))) ∧
  (∀ i, i < qK (xH X) → RS (qF (xH X) ((qO (xH X) + i) % 14)) (fun k => mD M (327 * i + k))) ∧
  (∀ j, j < 2 → vB (xS X) j = mI M j ∧ (¬ mI M j = 0 → RS (vF (xS X) j) (fun k => mK M (327 * j + k))))
theorem RelX.tz {X : Cx} {M : Mo} (h : RelX X M) : mZ M = nI (zz M) := h.1
theorem RelX.t120 {X : Cx} {M : Mo} (h : RelX X M) : zz M ≤ 120 := h.2.1
theorem RelX.tl {X : Cx} {M : Mo} (h : RelX X M) : tZ (xT X) = mZ M ∧ ∀ i, i < zz M → tL (xT X) i = mT M i := h.2.2.1
theorem RelX.nw {X : Cx} {M : Mo} (h : RelX X M) : RS (xN X) (mN M) := h.2.2.2.1
theorem RelX.ho {X : Cx} {M : Mo} (h : RelX X M) : qO (xH X) < 14 := h.2.2.2.2.1
theorem RelX.hk {X : Cx} {M : Mo} (h : RelX X M) : qK (xH X) ≤ 14 := h.2.2.2.2.2.1
theorem RelX.hc {X : Cx} {M : Mo} (h : RelX X M) : mC M = nI (qK (xH X)) := h.2.2.2.2.2.2.1
theorem RelX.hr {X : Cx} {M : Mo} (h : RelX X M) : ∀ i, i < qK (xH X) → RS (qF (xH X) ((qO (xH X) + i) % 14)) (fun k => mD M (327 * i + k)) := h.2.2.2.2.2.2.2.1
theorem RelX.sl {X : Cx} {M : Mo} (h : RelX X M) : ∀ j, j < 2 → vB (xS X) j = mI M j ∧ (¬ mI M j = 0 → RS (vF (xS X) j) (fun k => mK M (327 * j + k))) := h.2.2.2.2.2.2.2.2
theorem RelX.oA {X : Cx} {M : Mo} (h : RelX X M) (w : Int32) : RelX X (oA M w) := ⟨h.tz, h.t120, h.tl, h.nw, h.ho, h.hk, h.hc, h.hr, h.sl⟩
theorem RelX.oR {X : Cx} {M : Mo} (h : RelX X M) (w : Rw) : RelX X (oR M w) := ⟨h.tz, h.t120, h.tl, h.nw, h.ho, h.hk, h.hc, h.hr, h.sl⟩
theorem RelX.oS {X : Cx} {M : Mo} (h : RelX X M) (w : Int32) : RelX X (oS M w) := ⟨h.tz, h.t120, h.tl, h.nw, h.ho, h.hk, h.hc, h.hr, h.sl⟩
theorem RelX.oO {X : Cx} {M : Mo} (h : RelX X M) (w : Int32) : RelX X (oO M w) := ⟨h.tz, h.t120, h.tl, h.nw, h.ho, h.hk, h.hc, h.hr, h.sl⟩
theorem RelX.yR {X : Cx} {M : Mo} (h : RelX X M) (S : St) : RelX (yR X S) M := ⟨h.tz, h.t120, h.tl, h.nw, h.ho, h.hk, h.hc, h.hr, h.sl⟩
theorem RelX.now {X : Cx} {M : Mo} (h : RelX X M) {S : St} {g : Rw} (r : RS S g) : RelX (yN X S) (oN M g) := ⟨h.tz, h.t120, h.tl, r, h.ho, h.hk, h.hc, h.hr, h.sl⟩
theorem refused_2 (M : Mo) (w : Int32) : (h_X7_refused M w).2 = oA M w := by
  rw [h_X7_refused]
  by_cases c : w ≤ 0
  · rw [if_pos c]
  · rw [if_neg c]
/-- what the two remember -/
theorem rem_lt {D : Hi} {S : St} (h : qK D < 14) : h_X0_remember (D, S) = ((fun i => if i = (qO D + qK D) % 14 then S else qF D i, qO D, qK D + 1), S) := by
  rw [h_X0_remember, if_pos (show nI (qK (hH (D, S))) < 14 from (nI_ltI (b := 14) (show qK D < 2 ^ 31 by omega) (by omega)).mpr h)]
  rfl
theorem rem_14 {D : Hi} {S : St} (h : qK D = 14) : h_X0_remember (D, S) = ((fun i => if i = ((qO D + 1) % 14 + (qK D - 1)) % 14 then S else qF D i, (qO D + 1) % 14, qK D - 1 + 1), S) := by
  rw [h_X0_remember, if_neg (show ¬ nI (qK (hH (D, S))) < 14 from fun z => by
    have := (nI_ltI (b := 14) (show qK D < 2 ^ 31 by omega) (by omega)).mp z
    omega)]
  rfl
def remF (M2 : Mo) (k : Nat) : Rw := fun j => if 4251 ≤ j ∧ j < 4578 then mN M2 (0 + (j - 4251)) else if k ≤ j ∧ j < 4251 then mD M2 (j + 327) else mD M2 j
def SameRest (R M2 : Mo) : Prop := mA R = mA M2 ∧ mT R = mT M2 ∧ mZ R = mZ M2 ∧ mN R = mN M2 ∧ mK R = mK M2 ∧ mI R = mI M2
theorem remF_at (M2 : Mo) {k : Nat} (hk : k = 4251) : h_X7_copyState (mN M2) (mD M2) 0 (327 * 13) = remF M2 k := by
  subst hk
  funext j
  rw [cp_at, remF]
  by_cases z : 4251 ≤ j ∧ j < 4578
  · rw [if_pos (by omega), if_pos z]
  · rw [if_neg (by omega), if_neg z, if_neg (by omega)]
theorem remF_up (M2 : Mo) {k : Nat} (hk : k < 4251) : remF (oD M2 (upd (mD M2) k ((mD M2) (k + 327)))) (k + 1) = remF M2 k := by
  funext j
  unfold remF
  rw [show mN (oD M2 (upd (mD M2) k ((mD M2) (k + 327)))) = mN M2 from rfl, show mD (oD M2 (upd (mD M2) k ((mD M2) (k + 327)))) = upd (mD M2) k ((mD M2) (k + 327)) from rfl]
  by_cases z : 4251 ≤ j ∧ j < 4578
  · rw [if_pos z, if_pos z]
  · rw [if_neg z, if_neg z]
    by_cases w : k + 1 ≤ j ∧ j < 4251
    · rw [if_pos w, if_pos (by omega)]
      exact pk_un (by omega)
    · rw [if_neg w]
      by_cases u : j = k
      · rw [if_pos (by omega), u]
        exact pk_us
      · rw [if_neg (by omega)]
        exact pk_un u
set_option maxRecDepth 100000 in
theorem rem_lp (M : Mo) : ∀ (n k : Nat) (M2 : Mo), k ≤ 4251 → k + n = 4252 → mD (lp_rem M n k M2) = remF M2 k ∧ mC (lp_rem M n k M2) = mC M2 - 1 + 1 ∧ SameRest (lp_rem M n k M2) M2 := by
  intro n
  induction n with
  | zero => intro k M2 h1 h2; omega
  | succ n ih =>
    intro k M2 h1 h2
    rw [lp_rem]
    by_cases c : (4251 : Int32) ≤ nI k
    · have hk : k = 4251 := by
        have := (nI_leI (a := 4251) (by omega) (by omega)).mp c
        omega
      rw [if_pos c]
      exact ⟨remF_at M2 hk, rfl, rfl, rfl, rfl, rfl, rfl, rfl⟩
    · have hk : ¬ 4251 ≤ k := fun z => c ((nI_leI (a := 4251) (by omega) (by omega)).mpr z)
      rw [if_neg c]
      obtain ⟨a, b, d⟩ := ih (k + 1) (oD M2 (upd (mD M2) k ((mD M2) (k + 327)))) (by omega) (by omega)
      exact ⟨a.trans (remF_up M2 (by omega)), b, d⟩
theorem RelX.hist {X : Cx} {M M' : Mo} (h : RelX X M) {D : Hi} (s : SameRest M' M) (ho : qO D < 14) (hk : qK D ≤ 14) (hc : mC M' = nI (qK D)) (hr : ∀ i, i < qK D → RS (qF D ((qO D + i) % 14)) (fun k => mD M' (327 * i + k))) : RelX (yH X D) M' := by
  obtain ⟨sA, sT, sZ, sN, sK, sI⟩ := s
  have ez : zz M' = zz M := by rw [zz, sZ, zz]
  refine ⟨by rw [sZ, ez]; exact h.tz, by rw [ez]; exact h.t120, ⟨by rw [sZ]; exact h.tl.1, fun i hi => by rw [sT]; exact h.tl.2 i (by omega)⟩, by rw [sN]; exact h.nw, ho, hk, hc, hr, fun j hj => by rw [sI, sK]; exact h.sl j hj⟩
theorem RelX.ac {X : Cx} {M : Mo} (h : RelX X M) : ac M = qK (xH X) := by
  have := h.hk
  rw [CCurbCarsLaw_law_r3691_c58610.ac, h.hc, nI_clamp (by omega)]
theorem rem_now (X : Cx) : hT (h_X0_remember (xH X, xN X)) = xN X := by
  rw [h_X0_remember]
  by_cases c : nI (qK (hH (xH X, xN X))) < 14
  · rw [if_pos c]; rfl
  · rw [if_neg c]; rfl
set_option maxRecDepth 100000 in
theorem rem_all {X : Cx} {M : Mo} (h : RelX X M) : RelX (yH (yN X (hT (h_X0_remember (xH X, xN X)))) (hH (h_X0_remember (xH X, xN X)))) (h_X7_remember M) ∧ mA (h_X7_remember M) = mA M ∧ mN (h_X7_remember M) = mN M := by
  have h9 := h
  obtain ⟨tz, t120, tl, nw, ho, hk, hc, hr, sl⟩ := h9
  have hac := h.ac
  by_cases c : qK (xH X) = 14
  · have e14 : mC M = 14 := by rw [hc, c]; rfl
    rw [h_X7_remember, if_pos e14, rem_14 c]
    obtain ⟨a, b, s⟩ := rem_lp M (4251 + 1) 0 M (by omega) (by omega)
    refine ⟨RelX.hist (X := X) (D := (fun i => if i = ((qO (xH X) + 1) % 14 + (qK (xH X) - 1)) % 14 then xN X else qF (xH X) i, (qO (xH X) + 1) % 14, qK (xH X) - 1 + 1)) h s ?_ ?_ ?_ ?_, s.1, s.2.2.2.1⟩
    · show (qO (xH X) + 1) % 14 < 14
      omega
    · show qK (xH X) - 1 + 1 ≤ 14
      omega
    · rw [b, e14]
      show (14 : Int32) - 1 + 1 = nI (qK (xH X) - 1 + 1)
      rw [c]
      decide
    · intro i hi
      have hi14 : i < 14 := by
        have hi' : i < qK (xH X) - 1 + 1 := hi
        omega
      show RS (if ((qO (xH X) + 1) % 14 + i) % 14 = ((qO (xH X) + 1) % 14 + (qK (xH X) - 1)) % 14 then xN X else qF (xH X) (((qO (xH X) + 1) % 14 + i) % 14)) _
      rw [a]
      by_cases e : i = 13
      · rw [if_pos (by omega)]
        refine nw.cong fun k hk => ?_
        show remF M 0 (327 * i + k) = mN M k
        rw [remF, if_pos (by omega)]
        congr 1
        omega
      · rw [if_neg (by omega)]
        have q := hr (i + 1) (by omega)
        rw [show ((qO (xH X) + 1) % 14 + i) % 14 = (qO (xH X) + (i + 1)) % 14 by omega]
        refine q.cong fun k hk => ?_
        show remF M 0 (327 * i + k) = mD M (327 * (i + 1) + k)
        rw [remF, if_neg (by omega), if_pos (by omega)]
        congr 1
        omega
  · have hlt : qK (xH X) < 14 := by omega
    have e14 : ¬ mC M = 14 := fun z => by
      rw [hc] at z
      exact c (nI_inj (b := 14) (by omega) (by omega) z)
    rw [h_X7_remember, if_neg e14, rem_lt hlt]
    refine ⟨RelX.hist (X := X) (D := (fun i => if i = (qO (xH X) + qK (xH X)) % 14 then xN X else qF (xH X) i, qO (xH X), qK (xH X) + 1)) h ⟨rfl, rfl, rfl, rfl, rfl, rfl⟩ ho (show qK (xH X) + 1 ≤ 14 by omega) ?_ ?_, rfl, rfl⟩
    · show mC M + 1 = nI (qK (xH X) + 1)
      rw [hc, nI_1]
    · intro i hi
      have hi' : i < qK (xH X) + 1 := hi
      show RS (if (qO (xH X) + i) % 14 = (qO (xH X) + qK (xH X)) % 14 then xN X else qF (xH X) ((qO (xH X) + i) % 14)) (fun k => h_X7_copyState (mN M) (mD M) 0 (327 * CCurbCarsLaw_law_r3691_c58610.ac M) (327 * i + k))
      rw [hac]
      by_cases e : i = qK (xH X)
      · rw [if_pos (by rw [e])]
        refine nw.cong fun k hk => ?_
        show h_X7_copyState (mN M) (mD M) 0 (327 * qK (xH X)) (327 * i + k) = mN M k
        rw [cp_at, if_pos (by omega)]
        congr 1
        omega
      · rw [if_neg (by omega)]
        refine (hr i (by omega)).cong fun k hk => ?_
        show h_X7_copyState (mN M) (mD M) 0 (327 * qK (xH X)) (327 * i + k) = mD M (327 * i + k)
        rw [cp_at, if_neg (by omega)]
