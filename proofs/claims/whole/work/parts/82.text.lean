/-! the text: the class reads letters, the reference goes on from spot to spot -/
def TR (T : Tt) (M : Mo) : Prop := tZ T = nI (zz M) ∧ zz M ≤ 120 ∧ ∀ i, i < zz M → tL T i = mT M i
theorem let_in {T : Tt} {M : Mo} (h : TR T M) {i : Nat} (hi : i < zz M) : f_X5_letterAt T (nI i) = mT M i := by
  obtain ⟨h1, h2, h3⟩ := h
  rw [f_X5_letterAt, if_neg (nI_pos (by omega)), h1, if_neg (show ¬ nI (zz M) ≤ nI i from fun z => by
    have := (nI_leI (by omega) (by omega)).mp z
    omega), if_pos (show nI i < 120 from (nI_ltI (b := 120) (by omega) (by omega)).mpr (by omega)), nI_clamp (by omega), h3 i hi]
theorem let_out {T : Tt} {M : Mo} (h : TR T M) {i : Nat} (hi : zz M ≤ i) (hb : i < 1000) : f_X5_letterAt T (nI i) = -1 := by
  obtain ⟨h1, h2, h3⟩ := h
  rw [f_X5_letterAt, if_neg (nI_pos (by omega)), h1, if_pos ((nI_leI (by omega) (by omega)).mpr hi)]
theorem dig_iff (L : Int32) : f_X7_in (L - 48).toInt64 0 9 = 0 ↔ (L < 48 ∨ ¬ L ≤ 57) := by
  constructor
  · intro h
    by_cases c1 : L < 48
    · exact Or.inl c1
    · refine Or.inr fun c2 => ?_
      have h0 : ¬ L < 0 := fun z => c1 (by
        rw [Int32.lt_iff_toInt_lt, show (0 : Int32).toInt = 0 by decide] at z
        rw [Int32.lt_iff_toInt_lt, show (48 : Int32).toInt = 48 by decide]
        omega)
      obtain ⟨m, hm, rfl⟩ := nI_of h0
      have g1 : ¬ m < 48 := fun z => c1 ((nI_ltI (b := 48) hm (by omega)).mpr z)
      have g2 : m ≤ 57 := (nI_leI (b := 57) hm (by omega)).mp c2
      have e : nI m - 48 = nI (m - 48) := pk_sub (b := 48) (by omega)
      rw [e, in_eq _ 0 9 (by decide) (by decide), if_neg (nI_pos (by omega)), if_neg (show ¬ (9 : Int32) < nI (m - 48) from fun z => by
        have := (nI_ltI (a := 9) (by omega) (by omega)).mp z
        omega)] at h
      exact absurd h (by decide)
  · intro h
    apply Decidable.byContradiction
    intro hn
    obtain ⟨j, hj, e⟩ := in_nat (a := 9) (by decide) (by decide) hn
    have eL : L = nI (j + 48) := by
      have : L = (L - 48) + 48 := (Int32.sub_add_cancel L 48).symm
      rw [this, e]
      exact nI_add j 48
    rw [eL] at h
    rcases h with z | z
    · have := (nI_ltI (b := 48) (by omega) (by omega)).mp z
      omega
    · exact z ((nI_leI (b := 57) (by omega) (by omega)).mpr (by omega))
/-- a letter that is no figure here, or leads outside the bounds -/
abbrev Bad (L v lo hi : Int32) (u : Nat) : Prop := (L < 48 ∨ ¬ L ≤ 57) ∨ hi < v + (L - 48) * nI u ∨ ¬ lo ≤ v + (L - 48) * nI u + nI u - 1
theorem rFig_end {M : Mo} {ah lo hi : Int32} (n : Nat) (v : Int32) (ha : ¬ ah = -1) : lp_rFig ah lo hi (n + 1) v 0 M = (v, M) := by
  rw [lp_rFig, if_pos (by decide), if_neg ha]
theorem rFig_step {M : Mo} {ah lo hi : Int32} (n : Nat) (v : Int32) {u : Nat} (ha : ¬ ah = -1) (h : TI M) (hu : 1 ≤ u) (hu2 : u ≤ 100) : lp_rFig ah lo hi (n + 1) v u M = if zz M ≤ sp M then (-1, M) else if Bad (mT M (sp M)) v lo hi u then (-1, M) else lp_rFig ah lo hi n (v + (mT M (sp M) - 48) * nI u) (u / 10) (oS M (mS M + 1)) := by
  obtain ⟨h1, h2, h3, h4⟩ := h
  have e : (mS M).toNatClampNeg = sp M := rfl
  rw [lp_rFig, if_neg (show ¬ nI u ≤ 0 from fun z => by
    have := (nI_leI (b := 0) (by omega) (by omega)).mp z
    omega), if_neg ha, e]
  by_cases c1 : zz M ≤ sp M
  · rw [if_pos c1, if_pos (by rw [h1, h3, nI_leI (by omega) (by omega)]; exact c1)]
  · rw [if_neg c1, if_neg (show ¬ mZ M ≤ mS M by rw [h1, h3, nI_leI (by omega) (by omega)]; exact c1)]
    by_cases c2 : f_X7_in (mT M (sp M) - 48).toInt64 0 9 = 0
    · rw [if_pos c2, if_pos (show Bad _ v lo hi u from Or.inl ((dig_iff _).mp c2))]
    · rw [if_neg c2]
      by_cases c3 : hi < v + (mT M (sp M) - 48) * nI u
      · rw [if_pos c3, if_pos (show Bad _ v lo hi u from Or.inr (Or.inl c3))]
      · rw [if_neg c3]
        by_cases c4 : lo ≤ v + (mT M (sp M) - 48) * nI u + nI u - 1
        · rw [if_pos c4, if_neg]
          rintro (z | z | z)
          · exact c2 ((dig_iff _).mpr z)
          · exact c3 z
          · exact z c4
        · rw [if_neg c4, if_pos (show Bad _ v lo hi u from Or.inr (Or.inr c4))]
theorem err_step {T : Tt} {M : Mo} (h : TR T M) {i k d : Nat} {lo hi : Int32} (n : Nat) (v : Int32) {sp' : Int32} {u : Nat} (hk : k < d) (hd : d ≤ 2) (hi2 : i + k < 1000) (hu : sp' / 10 = nI u) : lp_errNum T (nI i) (nI d) lo hi (n + 1) k v sp' = if zz M ≤ i + k then nI (i + k) else if Bad (mT M (i + k)) v lo hi u then nI (i + k) else lp_errNum T (nI i) (nI d) lo hi n (k + 1) (v + (mT M (i + k) - 48) * nI u) (nI u) := by
  rw [lp_errNum, if_neg (show ¬ nI d ≤ nI k from fun z => by
    have := (nI_leI (by omega) (by omega)).mp z
    omega), nI_add, hu]
  by_cases c1 : zz M ≤ i + k
  · rw [if_pos c1, let_out h c1 hi2, if_pos (by decide)]
  · rw [if_neg c1, let_in h (by omega)]
    by_cases c2 : mT M (i + k) < 48
    · rw [if_pos c2, if_pos (show Bad _ v lo hi u from Or.inl (Or.inl c2))]
    · rw [if_neg c2]
      by_cases c3 : mT M (i + k) ≤ 57
      · rw [if_pos c3]
        by_cases c4 : hi < v + (mT M (i + k) - 48) * nI u
        · rw [if_pos c4, if_pos (show Bad _ v lo hi u from Or.inr (Or.inl c4))]
        · rw [if_neg c4]
          by_cases c5 : lo ≤ v + (mT M (i + k) - 48) * nI u + nI u - 1
          · rw [if_pos c5, if_neg]
            rintro ((z | z) | z | z)
            · exact c2 z
            · exact z c3
            · exact c4 z
            · exact z c5
          · rw [if_neg c5, if_pos (show Bad _ v lo hi u from Or.inr (Or.inr c5))]
      · rw [if_neg c3, if_pos (show Bad _ v lo hi u from Or.inl (Or.inr c3))]
theorem err_end (T : Tt) (i : Int32) (d : Nat) (lo hi : Int32) (n : Nat) (v sp' : Int32) : lp_errNum T i (nI d) lo hi (n + 1) d v sp' = -1 := by
  rw [lp_errNum, if_pos]
  exact Int32.le_refl _
theorem TI.oS2 {M : Mo} (h : TI M) {e : Nat} (he : e ≤ zz M) : TI (oS M (nI e)) ∧ sp (oS M (nI e)) = e := by
  obtain ⟨h1, h2, h3, h4⟩ := h
  have es : sp (oS M (nI e)) = e := nI_clamp (by omega)
  exact ⟨⟨h1, h2, by rw [es]; rfl, by rw [es]; exact he⟩, es⟩
theorem oS_self {M : Mo} (h : TI M) : oS M (nI (sp M)) = M := by
  rw [← h.2.2.1]
  rfl
/-- a number of one figure -/
theorem num1 {T : Tt} {M : Mo} (ht : TR T M) (h : TI M) {ah lo hi : Int32} (ha : ¬ ah = -1) (hlo : 0 ≤ lo) : (f_X5_errorInNumber T (nI (sp M)) 1 lo hi = -1 ∧ h_X7_figures M ah 1 lo hi = (f_X5_digit T (nI (sp M)), oS M (nI (sp M + 1))) ∧ sp M + 1 ≤ zz M ∧ ¬ f_X5_digit T (nI (sp M)) = -1) ∨ (∃ e, e ≤ zz M ∧ f_X5_errorInNumber T (nI (sp M)) 1 lo hi = nI e ∧ h_X7_figures M ah 1 lo hi = (-1, oS M (nI e))) := by
  obtain ⟨h1, h2, h3, h4⟩ := h
  have hT : TI M := ⟨h1, h2, h3, h4⟩
  have e1 : f_X5_errorInNumber T (nI (sp M)) 1 lo hi = lp_errNum T (nI (sp M)) (nI 1) lo hi (1 + 1) 0 0 10 := rfl
  have e2 : h_X7_figures M ah 1 lo hi = lp_rFig ah lo hi 11 0 1 M := by rw [h_X7_figures, if_neg (by decide)]
  rw [e1, e2, err_step ht 1 0 (by omega) (by omega) (by omega) (show (10 : Int32) / 10 = nI 1 by decide), Nat.add_zero, rFig_step 10 0 ha hT (by omega) (by omega)]
  by_cases c1 : zz M ≤ sp M
  · rw [if_pos c1, if_pos c1]
    exact Or.inr ⟨sp M, h4, rfl, by rw [oS_self hT]⟩
  · rw [if_neg c1, if_neg c1]
    by_cases c2 : Bad (mT M (sp M)) 0 lo hi 1
    · rw [if_pos c2, if_pos c2]
      exact Or.inr ⟨sp M, h4, rfl, by rw [oS_self hT]⟩
    · rw [if_neg c2, if_neg c2, err_end, show 1 / 10 = 0 from rfl, rFig_end 9 _ ha]
      have ed : f_X5_digit T (nI (sp M)) = 0 + (mT M (sp M) - 48) * nI 1 := by
        rw [f_X5_digit, let_in ht (by omega), show nI 1 = 1 from rfl, Int32.mul_one, Int32.zero_add]
      have hS : mS M + 1 = nI (sp M + 1) := by rw [h3, nI_1]
      refine Or.inl ⟨rfl, by rw [ed, ← hS], by omega, fun z => ?_⟩
      rw [ed] at z
      apply c2
      refine Or.inr (Or.inr fun w => ?_)
      rw [z] at w
      have := Int32.le_trans hlo w
      exact absurd this (by decide)
theorem errNum2 (T : Tt) (i lo hi : Int32) : f_X5_errorInNumber T i 2 lo hi = lp_errNum T i (nI 2) lo hi (2 + 1) 0 0 100 := by
  have e : (2 : Int32) = nI 2 := by decide
  rw [f_X5_errorInNumber, if_pos rfl, show (2 : Int32).toNatClampNeg = 2 by decide]
  exact congrArg (fun d => lp_errNum T i d lo hi (2 + 1) 0 0 100) e
/-- a number of two figures -/
theorem num2 {T : Tt} {M : Mo} (ht : TR T M) (h : TI M) {ah lo hi : Int32} (ha : ¬ ah = -1) (hlo : 0 ≤ lo) : (f_X5_errorInNumber T (nI (sp M)) 2 lo hi = -1 ∧ h_X7_figures M ah 2 lo hi = (f_X5_twoDigits T (nI (sp M)), oS M (nI (sp M + 2))) ∧ sp M + 2 ≤ zz M ∧ ¬ f_X5_twoDigits T (nI (sp M)) = -1) ∨ (∃ e, e ≤ zz M ∧ f_X5_errorInNumber T (nI (sp M)) 2 lo hi = nI e ∧ h_X7_figures M ah 2 lo hi = (-1, oS M (nI e))) := by
  obtain ⟨h1, h2, h3, h4⟩ := h
  have hT : TI M := ⟨h1, h2, h3, h4⟩
  have e1 := errNum2 T (nI (sp M)) lo hi
  have e2 : h_X7_figures M ah 2 lo hi = lp_rFig ah lo hi 11 0 10 M := by rw [h_X7_figures, if_pos rfl]
  rw [e1, e2, err_step ht 2 0 (by omega) (by omega) (by omega) (show (100 : Int32) / 10 = nI 10 by decide), Nat.add_zero, rFig_step 10 0 ha hT (by omega) (by omega)]
  by_cases c1 : zz M ≤ sp M
  · rw [if_pos c1, if_pos c1]
    exact Or.inr ⟨sp M, h4, rfl, by rw [oS_self hT]⟩
  · rw [if_neg c1, if_neg c1]
    by_cases c2 : Bad (mT M (sp M)) 0 lo hi 10
    · rw [if_pos c2, if_pos c2]
      exact Or.inr ⟨sp M, h4, rfl, by rw [oS_self hT]⟩
    · rw [if_neg c2, if_neg c2]
      have hS : mS M + 1 = nI (sp M + 1) := by rw [h3, nI_1]
      rw [hS]
      obtain ⟨t1, t2⟩ := hT.oS2 (e := sp M + 1) (by omega)
      have z1 : zz (oS M (nI (sp M + 1))) = zz M := rfl
      rw [err_step ht 1 _ (by omega) (by omega) (by omega) (show (nI 10 : Int32) / 10 = nI 1 by decide), Nat.zero_add, show (10 / 10 : Nat) = 1 from rfl, rFig_step 9 _ ha t1 (by omega) (by omega), t2, z1, show mT (oS M (nI (sp M + 1))) = mT M from rfl]
      by_cases c3 : zz M ≤ sp M + 1
      · rw [if_pos c3, if_pos c3]
        exact Or.inr ⟨sp M + 1, by omega, rfl, rfl⟩
      · rw [if_neg c3, if_neg c3]
        by_cases c4 : Bad (mT M (sp M + 1)) (0 + (mT M (sp M) - 48) * nI 10) lo hi 1
        · rw [if_pos c4, if_pos c4]
          exact Or.inr ⟨sp M + 1, by omega, rfl, rfl⟩
        · rw [if_neg c4, if_neg c4, err_end, show 1 / 10 = 0 from rfl, rFig_end 8 _ ha]
          have ed : f_X5_twoDigits T (nI (sp M)) = 0 + (mT M (sp M) - 48) * nI 10 + (mT M (sp M + 1) - 48) * nI 1 := by
            rw [f_X5_twoDigits, f_X5_digit, f_X5_digit, let_in ht (by omega), nI_1, let_in ht (by omega), show nI 1 = 1 by decide, show nI 10 = 10 by decide, Int32.mul_one, Int32.zero_add, Int32.mul_comm 10]
          have hS2 : mS (oS M (nI (sp M + 1))) + 1 = nI (sp M + 2) := by
            show nI (sp M + 1) + 1 = nI (sp M + 2)
            rw [nI_1]
          refine Or.inl ⟨rfl, by rw [ed, hS2]; rfl, by omega, fun z => ?_⟩
          rw [ed] at z
          apply c4
          refine Or.inr (Or.inr fun w => ?_)
          rw [z] at w
          have := Int32.le_trans hlo w
          exact absurd this (by decide)
theorem fig_m1 (M : Mo) (di lo hi : Int32) : h_X7_figures M (-1) di lo hi = (-1, M) := by
  rw [h_X7_figures]
  split
  · rw [lp_rFig, if_neg (by decide), if_pos rfl]
  · rw [lp_rFig, if_neg (by decide), if_pos rfl]
theorem firstOf_l {n : Nat} (hn : n < 2 ^ 31) (y : Int32) : f_X5_firstOf (nI n) y = nI n := by rw [f_X5_firstOf, if_neg (nI_m1 hn)]
theorem firstOf_r (y : Int32) : f_X5_firstOf (-1) y = y := by rw [f_X5_firstOf, if_pos rfl]
theorem TR.oS {T : Tt} {M : Mo} (h : TR T M) (v : Int32) : TR T (oS M v) := h
theorem Kept.S (M : Mo) (v : Int32) : Kept (Jvm.Pilot.CCurbCarsLaw_law_r2854_7a4d3c.oS M v) M := ⟨⟨rfl, rfl, rfl, rfl, rfl, rfl⟩, rfl, rfl⟩
/-- what reading one command comes to -/
def CmdT (T : Tt) (S : St) (M : Mo) (q : Int32 × Mo) : Prop :=
  Kept q.2 M ∧ ((∃ e, e ≤ zz M ∧ f_X5_errorInCommand T (nI (sp M)) = nI e ∧ q.1 = 0 ∧ mS q.2 = nI e) ∨
    (∃ k, f_X5_errorInCommand T (nI (sp M)) = -1 ∧ f_X5_commandSize T (nI (sp M)) = nI k ∧ sp M + k ≤ zz M ∧ 1 ≤ k ∧ ¬ q.1 = 0 ∧ mS q.2 = nI (sp M + k) ∧ RS (h_X5_doCommand T S (nI (sp M))).2 (mR q.2) ∧ mO q.2 = if (h_X5_doCommand T S (nI (sp M))).1 = -1 then mO M + 1 else mO M))
theorem dn_0 (M : Mo) : h_X7_done M 0 = (1, oO M (mO M + 1)) := by rw [h_X7_done, if_pos rfl]
theorem dn_1 (M : Mo) : h_X7_done M 1 = (1, oO M (mO M)) := by rw [h_X7_done, if_neg (by decide), Int32.add_zero]
/-- the action of a command: refused, or done -/
theorem cmdT_act {T : Tt} {S : St} {M M1 : Mo} {k : Nat} {A : Int32 × St} {B : Int32 × Rw} {P : Prop} [Decidable P] {q : Int32 × Mo} (hM1 : M1 = oS M (nI (sp M + k))) (hz : sp M + k ≤ zz M) (hk1 : 1 ≤ k) (eE : f_X5_errorInCommand T (nI (sp M)) = -1) (eK : f_X5_commandSize T (nI (sp M)) = nI k) (eD : h_X5_doCommand T S (nI (sp M)) = (A.1, A.2)) (h : RS S (mR M))
    (no : P → A = (-1, S)) (yes : ¬ P → A.1 = B.1 ∧ RS A.2 B.2 ∧ ∃ n, n < 2 ^ 31 ∧ B.1 = nI n)
    (hq : q = if P then (1, (h_X7_done M1 0).2) else if B.1 < 0 then (1, (h_X7_done (oR M1 B.2) 0).2) else (1, (h_X7_done (oR M1 B.2) 1).2)) : CmdT T S M q := by
  subst hM1
  by_cases c : P
  · rw [if_pos c, dn_0] at hq
    subst hq
    refine ⟨⟨⟨rfl, rfl, rfl, rfl, rfl, rfl⟩, rfl, rfl⟩, Or.inr ⟨k, eE, eK, hz, hk1, (show ¬ (1 : Int32) = 0 by decide), rfl, ?_, ?_⟩⟩
    · rw [eD, no c]; exact h
    · rw [eD, no c, if_pos rfl]; rfl
  · obtain ⟨a, b, n, hn, e⟩ := yes c
    rw [if_neg c, if_neg (by rw [e]; exact nI_pos hn), dn_1] at hq
    subst hq
    refine ⟨⟨⟨rfl, rfl, rfl, rfl, rfl, rfl⟩, rfl, rfl⟩, Or.inr ⟨k, eE, eK, hz, hk1, (show ¬ (1 : Int32) = 0 by decide), rfl, ?_, ?_⟩⟩
    · rw [eD]; exact b
    · rw [eD, if_neg (show ¬ A.1 = -1 by rw [a, e]; exact nI_m1 hn)]; rfl
theorem cmdT_bad {T : Tt} {S : St} {M : Mo} {e : Nat} (he : e ≤ zz M) (eE : f_X5_errorInCommand T (nI (sp M)) = nI e) {q : Int32 × Mo} (hq : q = (0, oS M (nI e))) : CmdT T S M q := by
  subst hq
  exact ⟨Kept.S M _, Or.inl ⟨e, he, eE, rfl, rfl⟩⟩
