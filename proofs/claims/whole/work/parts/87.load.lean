theorem has_eq {T : Tt} {M : Mo} (ht : TR T M) {s : Nat} (hs : s < 1000) : f_X5_hasLetter T (nI s) = 0 ↔ zz M ≤ s := by
  obtain ⟨h1, h2, -⟩ := ht
  rw [f_X5_hasLetter, if_neg (nI_pos (by omega)), h1, b01, nI_leI (by omega) (by omega)]
theorem TR.kept {T : Tt} {M M' : Mo} (h : TR T M) (k : Kept M' M) : TR T M' := by
  obtain ⟨⟨-, kT, kZ, -⟩, -⟩ := k
  have ez : zz M' = zz M := by rw [zz, kZ, zz]
  obtain ⟨h1, h2, h3⟩ := h
  exact ⟨by rw [ez]; exact h1, by rw [ez]; exact h2, fun i hi => by rw [kT]; exact h3 i (by omega)⟩
theorem text_lp {T : Tt} : ∀ (n' n k : Nat) (M : Mo) (S : St), TR T M → TI M → RS S (mR M) → k < sp M → zz M - sp M < n → zz M - sp M < n' →
    lp_firstErr T n k (nI (sp M)) = (lp_rText n' M).1 ∧ Kept (lp_rText n' M).2 M ∧ ((lp_rText n' M).1 = -1 → ∃ S', RS S' (mR (lp_rText n' M).2) ∧ ∀ X, xT X = T → xN X = S → lp_xLoad n k (mO M) (nI (sp M)) X = .inr (mO (lp_rText n' M).2, yN X S')) := by
  intro n'
  induction n' with
  | zero => intro n k M S ht h hr hk h1 h2; omega
  | succ n' ih =>
    intro n k M S ht h hr hk h1 h2
    obtain ⟨m, rfl⟩ : ∃ m, n = m + 1 := ⟨n - 1, by omega⟩
    have h120 := h.2.1
    have hsz := h.2.2.2
    have hk120 : k < 120 := by omega
    have e0 : mZ M ≤ mS M ↔ zz M ≤ sp M := by rw [h.1, h.2.2.1, nI_leI (by omega) (by omega)]
    rw [lp_firstErr, lp_rText, if_neg (show ¬ (120 : Int32) ≤ nI k from fun z => by
      have := (nI_leI (a := 120) (by omega) (by omega)).mp z
      omega)]
    by_cases c1 : zz M ≤ sp M
    · rw [if_pos ((has_eq ht (by omega)).mpr c1), if_pos (e0.mpr c1)]
      refine ⟨rfl, Kept.rf M, fun _ => ⟨S, hr, fun X hX hN => ?_⟩⟩
      rw [lp_xLoad, if_neg (show ¬ (120 : Int32) ≤ nI k from fun z => by
        have := (nI_leI (a := 120) (by omega) (by omega)).mp z
        omega), hX, if_pos ((has_eq ht (by omega)).mpr c1), ← hN]
      rfl
    · rw [if_neg (fun z => c1 ((has_eq ht (by omega)).mp z)), if_neg (fun z => c1 (e0.mp z))]
      obtain ⟨kp, q⟩ := cmdT ht h (by omega) hr
      rcases q with ⟨e, he, q1, q2, q3⟩ | ⟨j, q1, q2, q3, q4, q5, q6, q7, q8⟩
      · rw [if_pos q2, q1, if_neg (nI_m1 (by omega))]
        exact ⟨q3.symm, kp, fun z => by rw [q3] at z; exact absurd z (nI_m1 (by omega))⟩
      · have ez : zz (h_X7_readCommand M).2 = zz M := by rw [zz, kp.1.2.2.1, zz]
        have es : sp (h_X7_readCommand M).2 = sp M + j := by rw [sp, q6, nI_clamp (by omega)]
        have t2 : TI (h_X7_readCommand M).2 := ⟨by rw [kp.1.2.2.1, ez]; exact h.1, by rw [ez]; exact h120, by rw [q6, es], by rw [es, ez]; exact q3⟩
        have i := ih m (k + 1) (h_X7_readCommand M).2 (h_X5_doCommand T S (nI (sp M))).2 (ht.kept kp) t2 q7 (by omega) (by omega) (by omega)
        rw [if_neg q5, q1, if_pos rfl, q2, nI_add]
        rw [es] at i
        obtain ⟨i1, i2, i3⟩ := i
        refine ⟨i1, i2.tr kp, fun z => ?_⟩
        obtain ⟨S', s1, s2⟩ := i3 z
        refine ⟨S', s1, fun X hX hN => ?_⟩
        have y := s2 (yN X (h_X5_doCommand T S (nI (sp M))).2) hX rfl
        rw [lp_xLoad, if_neg (show ¬ (120 : Int32) ≤ nI k from fun z => by
          have := (nI_leI (a := 120) (by omega) (by omega)).mp z
          omega), hX, hN, if_neg (fun z => c1 ((has_eq ht (by omega)).mp z)), show xT (yN X (h_X5_doCommand T S (nI (sp M))).2) = T from hX, q2, nI_add]
        by_cases c2 : (h_X5_doCommand T S (nI (sp M))).1 = -1
        · rw [if_pos c2] at q8 ⊢
          rw [← q8]
          exact y
        · rw [if_neg c2] at q8 ⊢
          rw [← q8]
          exact y
