/-! minutes one by one, and when there is a gap -/
def o1 (S : St) : St := (h_X4_letCarsGoRound (h_X4_letParkedCarsLeave (wM S (sM S + 1)))).2
def mk : Nat → St → St
  | 0, S => S
  | i + 1, S => mk i (o1 S)
theorem pass_lp {p : Nat} (hp : p < 2 ^ 31) : ∀ (n k : Nat) (acc : Int32) (S : St), k ≤ p → p < k + n → (lp_pass (nI p) n k acc S).2 = mk (p - k) S := by
  intro n
  induction n with
  | zero => intro k acc S h1 h2; omega
  | succ n ih =>
    intro k acc S h1 h2
    rw [lp_pass]
    by_cases c : nI p ≤ nI k
    · have := (nI_leI (by omega) (by omega)).mp c
      rw [if_pos c, show p - k = 0 by omega]
      rfl
    · have hk : k < p := by
        rcases Nat.lt_or_ge k p with z | z
        · exact z
        · exact absurd (nI_le z (by omega)) c
      rw [if_neg c, ih (k + 1) _ _ (by omega) (by omega), show p - k = (p - (k + 1)) + 1 by omega]
      rfl
theorem pass_mk {p : Nat} (hp : 1 ≤ p ∧ p ≤ 60) (S : St) : (h_X4_passMinutes S (nI p)).2 = mk p S := by
  rw [h_X4_passMinutes, if_neg (mnt_yes hp), nI_clamp (by omega), pass_lp (by omega) _ 0 0 S (by omega) (by omega)]
  rfl
theorem mk_add (a : Nat) : ∀ (b : Nat) (S : St), mk (a + b) S = mk b (mk a S) := by
  induction a with
  | zero => intro b S; rw [Nat.zero_add]; rfl
  | succ a ih =>
    intro b S
    rw [show a + 1 + b = (a + b) + 1 by omega]
    exact ih b (o1 S)
def gwl (len : Int32) : Nat → Nat → St → Int32
  | 0, _, _ => -1
  | n + 1, k, S => if 100 < (nI k) then -1 else if f_X4_reasonAgainst S len = 0 then nI k else gwl len n (k + 1) (o1 S)
theorem pass_1 (S : St) : (h_X4_passMinutes S 1).2 = o1 S := pass_mk (p := 1) (by omega) S
theorem gap_lp (len : Int32) : ∀ (n k : Nat) (X : Cx), ∃ T, lp_xGapIn len n k X = .inr (gwl len n k (xR X), yR X T) := by
  intro n
  induction n with
  | zero => intro k X; exact ⟨xR X, rfl⟩
  | succ n ih =>
    intro k X
    rw [lp_xGapIn, gwl]
    by_cases c1 : (100 : Int32) < nI k
    · rw [if_pos c1, if_pos c1]
      exact ⟨xR X, rfl⟩
    · rw [if_neg c1, if_neg c1]
      by_cases c2 : f_X4_reasonAgainst (xR X) len = 0
      · rw [if_pos c2, if_pos c2]
        exact ⟨xR X, rfl⟩
      · rw [if_neg c2, if_neg c2, pass_1]
        obtain ⟨T, e⟩ := ih (k + 1) (yR X (o1 (xR X)))
        exact ⟨T, e⟩
def gw (S : St) (j : Nat) : Int32 := gwl (nI j) 102 0 S
theorem rd_when {X : Cx} {j : Nat} (hj : 2 ≤ j ∧ j ≤ 8) : ∃ T, pv (h_X6_gapIn X (nI j)) X = (gw (xN X) j, yR X T) := by
  obtain ⟨T, e⟩ := gap_lp (nI j) 102 0 (yR X (xN X))
  refine ⟨T, ?_⟩
  rw [h_X6_gapIn, if_neg (len_yes hj), e]
  rfl
theorem gwl_spec (len : Int32) : ∀ (n k : Nat) (S : St), k + n = 102 → k ≤ 101 → (gwl len n k S = -1 ∧ ∀ i, k + i ≤ 100 → ¬ f_X4_reasonAgainst (mk i S) len = 0) ∨ ∃ i, k + i ≤ 100 ∧ gwl len n k S = nI (k + i) ∧ f_X4_reasonAgainst (mk i S) len = 0 ∧ ∀ i', i' < i → ¬ f_X4_reasonAgainst (mk i' S) len = 0 := by
  intro n
  induction n with
  | zero => intro k S h1 h2; omega
  | succ n ih =>
    intro k S h1 h2
    rw [gwl]
    by_cases c1 : (100 : Int32) < nI k
    · have := (nI_ltI (a := 100) (by omega) (by omega)).mp c1
      rw [if_pos c1]
      exact Or.inl ⟨rfl, fun i hi => by omega⟩
    · have hk : k ≤ 100 := by
        rcases Nat.lt_or_ge 100 k with z | z
        · exact absurd (nI_lt (a := 100) z (by omega)) c1
        · exact z
      rw [if_neg c1]
      by_cases c2 : f_X4_reasonAgainst S len = 0
      · rw [if_pos c2]
        exact Or.inr ⟨0, by omega, rfl, c2, fun i' hi => by omega⟩
      · rw [if_neg c2]
        rcases ih (k + 1) (o1 S) (by omega) (by omega) with ⟨a, b⟩ | ⟨i, a, b, c, d⟩
        · refine Or.inl ⟨a, fun i hi => ?_⟩
          cases i with
          | zero => exact c2
          | succ i => exact b i (by omega)
        · refine Or.inr ⟨i + 1, by omega, by rw [b]; congr 1; omega, c, fun i' hi => ?_⟩
          cases i' with
          | zero => exact c2
          | succ i' => exact d i' (by omega)
theorem gw_spec (S : St) (j : Nat) : (gw S j = -1 ∧ ∀ i, i ≤ 100 → ¬ f_X4_reasonAgainst (mk i S) (nI j) = 0) ∨ ∃ i, i ≤ 100 ∧ gw S j = nI i ∧ f_X4_reasonAgainst (mk i S) (nI j) = 0 ∧ ∀ i', i' < i → ¬ f_X4_reasonAgainst (mk i' S) (nI j) = 0 := by
  have h := gwl_spec (nI j) 102 0 S (by omega) (by omega)
  simp only [Nat.zero_add] at h
  exact h
theorem reason_0 {X : Cx} {M : Mo} (h : RelX X M) {j : Nat} (hj : 2 ≤ j ∧ j ≤ 8) : f_X4_reasonAgainst (xN X) (nI j) = 0 ↔ wy (mN M) j = 0 := by
  have hw := wy_le (mN M) j
  rw [reason_eq h.nw.1, reason_wy h.nw.2 hj.2]
  exact ⟨fun z => nI_inj (b := 0) (by omega) (by omega) z, fun z => by rw [z]; rfl⟩
/-! waiting at both streets, and taking it back -/
def wt (X : Cx) (k : Nat) : Cx := if k = 0 then X else if k ≤ 60 then rm X (h_X4_passMinutes (xN X) (nI k)).2 else rm (rm X (h_X4_passMinutes (xN X) (nI 60)).2) (h_X4_passMinutes (h_X4_passMinutes (xN X) (nI 60)).2 (nI (k - 60))).2
def wtM (M : Mo) (k : Nat) : Mo := if k = 0 then M else if k ≤ 60 then (h_X7_minutes M (nI k)).2 else (h_X7_minutes (h_X7_minutes M (nI 60)).2 (nI (k - 60))).2
def ut (X : Cx) (k : Nat) : Cx := if k = 0 then X else if k ≤ 60 then un X else un (un X)
def utM (M : Mo) (k : Nat) : Mo := if k = 0 then M else if k ≤ 60 then (h_X7_undo M).2 else (h_X7_undo (h_X7_undo M).2).2
def un2 (k : Nat) : Nat := if k = 0 then 0 else if k ≤ 60 then 1 else 2
theorem wt_R {X : Cx} {M : Mo} (h : RelX X M) {k : Nat} (hk : k ≤ 100) : RelX (wt X k) (wtM M k) := by
  rw [wt, wtM]
  by_cases c1 : k = 0
  · rw [if_pos c1, if_pos c1]
    exact h
  · rw [if_neg c1, if_neg c1]
    by_cases c2 : k ≤ 60
    · rw [if_pos c2, if_pos c2]
      exact (ac_min h (by omega)).2.1
    · rw [if_neg c2, if_neg c2]
      have b := (ac_min (p := k - 60) (ac_min (p := 60) h (by omega)).2.1 (by omega)).2.1
      rw [rm_N] at b
      exact b
theorem wt_N {X : Cx} {k : Nat} (hk : k ≤ 100) : xN (wt X k) = mk k (xN X) := by
  rw [wt]
  by_cases c1 : k = 0
  · rw [if_pos c1, c1]
    rfl
  · rw [if_neg c1]
    by_cases c2 : k ≤ 60
    · rw [if_pos c2, rm_N, pass_mk (by omega)]
    · rw [if_neg c2, rm_N, pass_mk (by omega), pass_mk (by omega), ← mk_add, show 60 + (k - 60) = k by omega]
theorem wt_K {X : Cx} {k : Nat} (hk : qK (xH X) ≤ 14) : un2 k ≤ qK (xH (wt X k)) := by
  rw [wt, un2]
  by_cases c1 : k = 0
  · rw [if_pos c1, if_pos c1]
    exact Nat.zero_le _
  · rw [if_neg c1, if_neg c1]
    by_cases c2 : k ≤ 60
    · rw [if_pos c2, if_pos c2]
      exact rm_pos _ hk
    · have h1 := rm_K (X := X) (h_X4_passMinutes (xN X) (nI 60)).2 hk
      have h2 : qK (xH (rm X (h_X4_passMinutes (xN X) (nI 60)).2)) ≤ 14 := by rw [h1]; split <;> omega
      have h3 := rm_pos (X := X) (h_X4_passMinutes (xN X) (nI 60)).2 hk
      rw [if_neg c2, if_neg c2, rm_K _ h2]
      split <;> omega
theorem ut_R {X : Cx} {M : Mo} (h : RelX X M) {k : Nat} (hk : un2 k ≤ qK (xH X)) : RelX (ut X k) (utM M k) := by
  rw [ut, utM]
  rw [un2] at hk
  by_cases c1 : k = 0
  · rw [if_pos c1, if_pos c1]
    exact h
  · rw [if_neg c1] at hk
    rw [if_neg c1, if_neg c1]
    by_cases c2 : k ≤ 60
    · rw [if_pos c2] at hk
      rw [if_pos c2, if_pos c2]
      exact (ac_undo h (by omega)).2
    · rw [if_neg c2] at hk
      rw [if_neg c2, if_neg c2]
      exact (ac_undo (ac_undo h (by omega)).2 (by rw [un_K]; omega)).2
theorem ut_wt {X : Cx} {k : Nat} (hO : qO (xH X) < 14) (hk : qK (xH X) ≤ 14) : xN (ut (wt X k) k) = xN X := by
  rw [ut, wt]
  by_cases c1 : k = 0
  · rw [if_pos c1, if_pos c1]
  · rw [if_neg c1, if_neg c1]
    by_cases c2 : k ≤ 60
    · rw [if_pos c2, if_pos c2]
      exact un_rm _ hO hk
    · rw [if_neg c2, if_neg c2]
      exact un_rm2 _ _ hO hk
theorem gm_min_lp {m : Nat} (hm : m < 2 ^ 31) : ∀ (n k : Nat) (acc : Int32) (S : St) (g : Rw), Rel S g → Inv g → gm (lp_rMin (nI m) n k acc g).2 = gm g := by
  intro n
  induction n with
  | zero => intro k acc S g h hi; rfl
  | succ n ih =>
    intro k acc S g h hi
    rw [lp_rMin]
    by_cases c1 : nI m ≤ nI k
    · rw [if_pos c1]
    · rw [if_neg c1]
      obtain ⟨-, b, c, d⟩ := minute_all h hi
      exact (ih (k + 1) _ _ _ b c).trans d
theorem gm_min {S : St} {g : Rw} (h : Rel S g) (hi : Inv g) {p : Nat} (hp : p < 2 ^ 31) : gm (h_X7_minutesOn g (nI p)).2 = gm g := by
  rw [h_X7_minutesOn]
  exact gm_min_lp hp _ _ _ _ _ h hi
theorem wt_Ch {X : Cx} {M : Mo} (h : RelX X M) (hc : Ch X) {k : Nat} (hk : k ≤ 100) : Ch (wt X k) := by
  have step : ∀ {X : Cx} {M : Mo} {p : Nat}, RelX X M → Ch X → 1 ≤ p → p ≤ 60 → Ch (rm X (h_X4_passMinutes (xN X) (nI p)).2) := by
    intro X M p h hc h1 h2
    have r := (ac_min h ⟨h1, h2⟩).2
    have e1 := nm_gm r.1
    have e2 := nm_gm h
    have e3 := gm_min h.nw.1 h.nw.2 (p := p) (by omega)
    rw [r.2, e3, rm_N] at e1
    have := hc.1
    exact hc.rmb h.ho h.hk (by omega) (by omega)
  rw [wt]
  by_cases c1 : k = 0
  · rw [if_pos c1]
    exact hc
  · rw [if_neg c1]
    by_cases c2 : k ≤ 60
    · rw [if_pos c2]
      exact step h hc (by omega) c2
    · rw [if_neg c2]
      have b := step (p := k - 60) (ac_min (p := 60) h (by omega)).2.1 (step h hc (by omega) (by omega)) (by omega) (by omega)
      rw [rm_N] at b
      exact b
theorem ut_Ch {X : Cx} (hc : Ch X) {k : Nat} (hk : un2 k ≤ qK (xH X)) (h2 : 2 ≤ nm (xN (ut X k))) (h3 : 2 ≤ nm (xN (un X))) : Ch (ut X k) := by
  rw [ut] at h2 ⊢
  rw [un2] at hk
  by_cases c1 : k = 0
  · rw [if_pos c1]
    exact hc
  · rw [if_neg c1] at hk h2 ⊢
    by_cases c2 : k ≤ 60
    · rw [if_pos c2] at hk ⊢
      exact hc.unb (by omega) h3
    · rw [if_neg c2] at hk h2 ⊢
      exact (hc.unb (by omega) h3).unb (by rw [un_K]; omega) h2
