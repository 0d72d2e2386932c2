theorem script_lp {sc : Int64} (hs : ∃ t, t < 2 ^ 63 ∧ sc = lN t) {U : Nat} (hU : U ≤ 3) : ∀ (n k : Nat) (al : Int64) (X : Cx) (M : Mo), RelX X M → RS (xR X) (mR M) → al = lN (1000000 ^ (U - k)) → k ≤ U → U < k + n → ∃ r X1, lp_xScript (nI U) sc n (al / 1000000) k X = .inr (r, X1) ∧ r = (lp_rScript (nI U) sc n al k M).1 ∧ RelX X1 (lp_rScript (nI U) sc n al k M).2 ∧ mA (lp_rScript (nI U) sc n al k M).2 = mA M := by
  intro n
  induction n with
  | zero => intro k al X M h hr e h1 h2; omega
  | succ n ih =>
    intro k al X M h hr e h1 h2
    rw [lp_xScript, lp_rScript]
    by_cases c1 : nI U ≤ nI k
    · rw [if_pos c1, if_pos c1]
      exact ⟨-1, X, rfl, rfl, h, rfl⟩
    · rw [if_neg c1, if_neg c1]
      have hk : k < U := by
        rw [nI_leI (by omega) (by omega)] at c1
        omega
      have ed := sc_div e hk hU
      have hpos : ¬ lg_cmp (al / 1000000) 0 ≤ 0 := by
        rw [ed]
        rcases (show U - (k + 1) = 0 ∨ U - (k + 1) = 1 ∨ U - (k + 1) = 2 by omega) with z | z | z <;> rw [z] <;> decide
      obtain ⟨u, hu, eu⟩ := sc_grp hs e hk hU
      rw [if_neg hpos, eu, nI_clamp (by omega)]
      obtain ⟨a, b, c, d⟩ := cmd_eq hr hu
      rw [a]
      by_cases c2 : (h_X7_command M (nI (u / 100000)) (u % 100000)).1 = 0
      · rw [if_pos c2, if_pos c2]
        exact ⟨nI k, _, rfl, rfl, (d X h).yR _, c⟩
      · rw [if_neg c2, if_neg c2]
        obtain ⟨r, X1, i1, i2, i3, i4⟩ := ih (k + 1) (al / 1000000) (yR X (h_X2_succeeds (xR X) (nI u)).2) (h_X7_command M (nI (u / 100000)) (u % 100000)).2 ((d X h).yR _) b ed (by omega) (by omega)
        exact ⟨r, X1, i1, i2, i3, i4.trans c⟩
theorem sc_ok {sc un : Int64} {U : Nat} (hU : U ≤ 3) (h1 : 1 ≤ U) (eu : un = lN (1000000 ^ (U - 1))) : (f_X7_in sc 0 (un * 1000000 - 1) = 0 ↔ (lg_cmp sc 0 < 0 ∨ ¬ lg_cmp (sc / 1000000) un < 0)) := by
  have hm : 1000000 ^ (U - 1) ≤ 1000000000000 := by
    rcases (show U = 1 ∨ U = 2 ∨ U = 3 by omega) with rfl | rfl | rfl <;> decide
  have hm0 : 1 ≤ 1000000 ^ (U - 1) := Nat.one_le_pow _ _ (by omega)
  have eh : lN (1000000 ^ (U - 1)) * 1000000 - 1 = lN (1000000 ^ (U - 1) * 1000000 - 1) := by
    rcases (show U = 1 ∨ U = 2 ∨ U = 3 by omega) with rfl | rfl | rfl <;> decide
  generalize 1000000 ^ (U - 1) = m at eu hm hm0 eh
  subst eu
  rw [f_X7_in, eh]
  by_cases c1 : lg_cmp sc 0 < 0
  · rw [if_pos c1]
    exact ⟨fun _ => Or.inl c1, fun _ => rfl⟩
  · rw [if_neg c1]
    obtain ⟨t, ht, rfl⟩ := pk_lOf (x := sc) (fun z => c1 ((lg_cmp_lt _ _).mpr z))
    rw [b01, lg_cmp_gt, lg_cmp_lt (lN t / 1000000), show (1000000 : Int64) = lN 1000000 from rfl, pk_lDiv ht (by omega) (by omega), pk_lLT (by omega) ht, pk_lLT (by omega) (by omega)]
    constructor
    · intro z
      refine Or.inr fun w => ?_
      have := Nat.div_lt_iff_lt_mul (x := t) (y := m) (k := 1000000) (by omega)
      have := this.mp w
      omega
    · rintro (z | z)
      · exact absurd z c1
      · rcases Nat.lt_or_ge (m * 1000000 - 1) t with w | w
        · exact w
        · exfalso
          apply z
          exact (Nat.div_lt_iff_lt_mul (by omega)).mpr (by omega)

set_option maxRecDepth 100000 in
theorem run_go {X : Cx} {M : Mo} {f : Nat → Int64} (sc : Int64) {U : Nat} (h1 : 1 ≤ U) (hU : U ≤ 3) (h : RelX X M) {un : Int64} (eu : un = lN (1000000 ^ (U - 1))) {hh : String ⊕ (Int32 × Cx)} {q : Int32 × Mo}
    (e1 : hh = if lg_cmp sc 0 < 0 then .inl "java/lang/IllegalArgumentException" else if lg_cmp (sc / 1000000) un < 0 then lp_xScript (nI U) sc 4 un 0 (yR X (xN X)) else .inl "java/lang/IllegalArgumentException")
    (e2 : q = if f_X7_in sc 0 (un * 1000000 - 1) = 0 then (0, (h_X7_refused M 1).2) else lp_rScript (nI U) sc 4 (un * 1000000) 0 (oR ((h_X7_refused M 0).2) (h_X7_copyState (mN ((h_X7_refused M 0).2)) (mR ((h_X7_refused M 0).2)) 0 0))) : OpOk RelX (wr "java/lang/IllegalArgumentException" hh (X, f)) q := by
  have ok := sc_ok (sc := sc) hU h1 eu
  rw [refused_2, refused_2] at e2
  by_cases c1 : lg_cmp sc 0 < 0
  · rw [if_pos c1] at e1
    rw [if_pos (ok.mpr (Or.inl c1))] at e2
    rw [e2]
    exact ok_l e1 1 (if_pos rfl) rfl (h.oA 1)
  · rw [if_neg c1] at e1
    by_cases c2 : lg_cmp (sc / 1000000) un < 0
    · rw [if_pos c2] at e1
      have hin : ¬ f_X7_in sc 0 (un * 1000000 - 1) = 0 := fun z => by
        rcases ok.mp z with y | y
        · exact c1 y
        · exact y c2
      rw [if_neg hin] at e2
      have eal : un * 1000000 = lN (1000000 ^ (U - 0)) := by
        rw [eu]
        rcases (show U = 1 ∨ U = 2 ∨ U = 3 by omega) with rfl | rfl | rfl <;> decide
      have edv : un * 1000000 / 1000000 = un := by
        rw [eu]
        rcases (show U = 1 ∨ U = 2 ∨ U = 3 by omega) with rfl | rfl | rfl <;> decide
      have rs : RS (xN X) (h_X7_copyState (mN M) (mR M) 0 0) := cp_RS h (mR M)
      obtain ⟨r, X1, a, b, c, d⟩ := script_lp (sc_pos hin) hU 4 0 (un * 1000000) (yR X (xN X)) (oR (oA M 0) (h_X7_copyState (mN (oA M 0)) (mR (oA M 0)) 0 0)) (((h.oA 0).yR _).oR _) rs eal (Nat.zero_le _) (by omega)
      rw [edv] at a
      rw [e2]
      exact ok_r (e1.trans a) d c b
    · rw [if_neg c2] at e1
      rw [if_pos (ok.mpr (Or.inr c2))] at e2
      rw [e2]
      exact ok_l e1 1 (if_pos rfl) rfl (h.oA 1)
set_option maxRecDepth 100000 in
theorem o_runScript {X : Cx} {M : Mo} {f : Nat → Int64} (w : Int32) (sc : Int64) (h : RelX X M) : OpOk RelX (wr "java/lang/IllegalArgumentException" (h_X6_runScript X w sc) (X, f)) (h_X7_runScript M w sc) := by
  by_cases c0 : f_X7_in w.toInt64 1 3 = 0
  · have er : ∀ n al k, ∃ v, lp_rUnit M w sc n al k = v ∧ (v = (0, M) ∨ v = (0, oA M 1)) := by
      intro n
      induction n with
      | zero => intro al k; exact ⟨_, rfl, Or.inl rfl⟩
      | succ n ih =>
        intro al k
        refine ⟨_, rfl, ?_⟩
        rw [lp_rUnit]
        by_cases c1 : w ≤ nI k
        · rw [if_pos c1, if_pos c0, refused_2]; exact Or.inr rfl
        · rw [if_neg c1]
          by_cases c2 : (3 : Int32) ≤ nI k
          · rw [if_pos c2, if_pos c0, refused_2]; exact Or.inr rfl
          · rw [if_neg c2]
            obtain ⟨v, hv, hh⟩ := ih (al * 1000000) (k + 1)
            rw [hv]; exact hh
    have c0' := c0
    rw [in_eq w 1 3 (by decide) (by decide)] at c0'
    have eq : h_X7_runScript M w sc = (0, oA M 1) := by
      rw [h_X7_runScript, lp_rUnit]
      by_cases z0 : w ≤ nI 0
      · rw [if_pos z0, if_pos c0, refused_2]
      · rw [if_neg z0, if_neg (show ¬ (3 : Int32) ≤ nI 0 by decide), lp_rUnit]
        by_cases z1 : w ≤ nI (0 + 1)
        · rw [if_pos z1, if_pos c0, refused_2]
        · rw [if_neg z1, if_neg (show ¬ (3 : Int32) ≤ nI (0 + 1) by decide), lp_rUnit]
          by_cases z2 : w ≤ nI (0 + 1 + 1)
          · rw [if_pos z2, if_pos c0, refused_2]
          · rw [if_neg z2, if_neg (show ¬ (3 : Int32) ≤ nI (0 + 1 + 1) by decide), lp_rUnit]
            by_cases z3 : w ≤ nI (0 + 1 + 1 + 1)
            · rw [if_pos z3, if_pos c0, refused_2]
            · rw [if_neg z3, if_pos (show (3 : Int32) ≤ nI (0 + 1 + 1 + 1) by decide), if_pos c0, refused_2]
    rw [eq]
    refine ok_l (E := "java/lang/IllegalArgumentException") ?_ 1 (if_pos rfl) rfl (h.oA 1)
    rw [h_X6_runScript]
    by_cases c1 : w < 1
    · rw [if_pos c1]
    · rw [if_neg c1] at c0' ⊢
      by_cases c2 : 3 < w
      · rw [if_neg (Int32.not_le.mpr c2)]
      · rw [if_neg c2] at c0'; exact absurd c0' (by decide)
  · have c0' := c0
    rw [in_eq w 1 3 (by decide) (by decide)] at c0'
    have c1 : ¬ w < 1 := fun z => by rw [if_pos z] at c0'; exact c0' rfl
    have c2 : ¬ 3 < w := fun z => by rw [if_neg c1, if_pos z] at c0'; exact c0' rfl
    have hw : w = nI 1 ∨ w = nI 2 ∨ w = nI 3 := by
      have h0 : ¬ w < 0 := fun z => c1 (by
        rw [Int32.lt_iff_toInt_lt, show (0 : Int32).toInt = 0 by decide] at z
        rw [Int32.lt_iff_toInt_lt, show (1 : Int32).toInt = 1 by decide]
        omega)
      obtain ⟨m, hm, rfl⟩ := nI_of h0
      have g1 : ¬ m < 1 := fun z => c1 ((nI_ltI (b := 1) hm (by omega)).mpr z)
      have g2 : ¬ 3 < m := fun z => c2 ((nI_ltI (a := 3) (by omega) hm).mpr z)
      rcases (show m = 1 ∨ m = 2 ∨ m = 3 by omega) with rfl | rfl | rfl
      · exact Or.inl rfl
      · exact Or.inr (Or.inl rfl)
      · exact Or.inr (Or.inr rfl)
    rw [h_X6_runScript, if_neg c1, if_pos (Int32.not_lt.mp c2), h_X7_runScript]
    rcases hw with rfl | rfl | rfl
    · refine run_go sc (U := 1) (by omega) (by omega) h (un := 1) (by decide) ?_ ?_
      · rw [lp_xUnit, if_pos (show nI 1 ≤ nI 1 by decide)]
      · rw [lp_rUnit, if_neg (show ¬ nI 1 ≤ nI 0 by decide), if_neg (show ¬ (3 : Int32) ≤ nI 0 by decide), lp_rUnit, if_pos (show nI 1 ≤ nI (0 + 1) by decide), if_neg c0]
    · refine run_go sc (U := 2) (by omega) (by omega) h (un := 1 * 1000000) (by decide) ?_ ?_
      · rw [lp_xUnit, if_neg (show ¬ nI 2 ≤ nI 1 by decide), lp_xUnit, if_pos (show nI 2 ≤ nI (1 + 1) by decide)]
      · rw [lp_rUnit, if_neg (show ¬ nI 2 ≤ nI 0 by decide), if_neg (show ¬ (3 : Int32) ≤ nI 0 by decide), lp_rUnit, if_neg (show ¬ nI 2 ≤ nI (0 + 1) by decide), if_neg (show ¬ (3 : Int32) ≤ nI (0 + 1) by decide), lp_rUnit, if_pos (show nI 2 ≤ nI (0 + 1 + 1) by decide), if_neg c0]
    · refine run_go sc (U := 3) (by omega) (by omega) h (un := 1 * 1000000 * 1000000) (by decide) ?_ ?_
      · rw [lp_xUnit, if_neg (show ¬ nI 3 ≤ nI 1 by decide), lp_xUnit, if_neg (show ¬ nI 3 ≤ nI (1 + 1) by decide), lp_xUnit, if_pos (show nI 3 ≤ nI (1 + 1 + 1) by decide)]
      · rw [lp_rUnit, if_neg (show ¬ nI 3 ≤ nI 0 by decide), if_neg (show ¬ (3 : Int32) ≤ nI 0 by decide), lp_rUnit, if_neg (show ¬ nI 3 ≤ nI (0 + 1) by decide), if_neg (show ¬ (3 : Int32) ≤ nI (0 + 1) by decide), lp_rUnit, if_neg (show ¬ nI 3 ≤ nI (0 + 1 + 1) by decide), if_neg (show ¬ (3 : Int32) ≤ nI (0 + 1 + 1) by decide), lp_rUnit, if_pos (show nI 3 ≤ nI (0 + 1 + 1 + 1) by decide), if_neg c0]
