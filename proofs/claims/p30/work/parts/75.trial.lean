theorem suff_eq {S : St} {g : Rw} (h : RS S g) {len : Int32} (hl : ¬ f_X7_isLength len = 0) : f_X4_reasonAgainst S len = 0 ↔ ¬ f_X7_suffices g len = 0 := by
  obtain ⟨j, j2, j8, rfl⟩ := len_2e hl
  obtain ⟨r, hr, er⟩ := h.2.ri.2.1
  have hL := longest_le g
  rw [reason_eq h.1, f_X7_reason]
  by_cases c1 : nI j ≤ nI (f_X7_longest g)
  · rw [if_pos c1]
    by_cases c2 : f_X7_suffices g (nI j) = 0
    · rw [if_pos c2]; exact ⟨fun z => absurd z (by decide), fun z => absurd c2 z⟩
    · rw [if_neg c2]; exact ⟨fun _ => c2, fun _ => rfl⟩
  · rw [if_neg c1]
    have c2 : f_X7_suffices g (nI j) = 0 := by
      rw [f_X7_suffices, er, nI_add, if_pos]
      rw [nI_leI (by omega) (by omega)] at c1
      exact (nI_ltI (by omega) (by omega)).mpr (by omega)
    exact ⟨fun z => absurd z (by decide), fun z => absurd c2 z⟩
theorem pass1 {S : St} {g : Rw} (h : RS S g) : RS (h_X4_passMinutes S 1).2 (h_X7_minute g).2 := by
  obtain ⟨a, b, c, d⟩ := minute_all h.1 h.2
  have e : (h_X4_passMinutes S 1).2 = (h_X4_letCarsGoRound (h_X4_letParkedCarsLeave (wM S (sM S + 1)))).2 := rfl
  rw [e]
  exact ⟨b, c⟩
theorem gapIn_lp {len : Int32} (hl : ¬ f_X7_isLength len = 0) : ∀ (n k : Nat) (X : Cx) (M : Mo), RelX X M → RS (xR X) (mR M) → ∃ r X1, lp_xGapIn len n k X = .inr (r, X1) ∧ r = (lp_rGapIn len n k M).1 ∧ RelX X1 (lp_rGapIn len n k M).2 ∧ mA (lp_rGapIn len n k M).2 = mA M := by
  intro n
  induction n with
  | zero => intro k X M h hr; exact ⟨-1, X, rfl, rfl, h, rfl⟩
  | succ n ih =>
    intro k X M h hr
    rw [lp_xGapIn, lp_rGapIn]
    by_cases c1 : (100 : Int32) < nI k
    · rw [if_pos c1, if_pos c1]
      exact ⟨-1, X, rfl, rfl, h, rfl⟩
    · rw [if_neg c1, if_neg c1]
      by_cases c2 : f_X7_suffices (mR M) len = 0
      · rw [if_pos c2, if_neg (fun z => (suff_eq hr hl).mp z c2)]
        obtain ⟨r, X1, a, b, c, d⟩ := ih (k + 1) (yR X (h_X4_passMinutes (xR X) 1).2) (oR M (h_X7_minute (mR M)).2) ((h.yR _).oR _) (pass1 hr)
        exact ⟨r, X1, a, b, c, d⟩
      · rw [if_neg c2, if_pos ((suff_eq hr hl).mpr c2)]
        exact ⟨nI k, X, rfl, rfl, h, rfl⟩
theorem cp_RS {X : Cx} {M : Mo} (h : RelX X M) (g : Rw) : RS (xN X) (h_X7_copyState (mN M) g 0 0) := h.nw.cong fun i hi => cp_00 _ _ hi
set_option maxRecDepth 100000 in
theorem o_gapIn {X : Cx} {M : Mo} (len : Int32) (h : RelX X M) : OpOk RelX "java/lang/IllegalArgumentException" (h_X6_gapIn X len) X (h_X7_gapIn M len) := by
  rw [h_X7_gapIn]
  by_cases c1 : f_X7_isLength len = 0
  · rw [if_pos c1, refused_2]
    exact ok_l (E := "java/lang/IllegalArgumentException") (by rw [h_X6_gapIn, if_pos ((rq_len len).mpr c1)]) 1 (if_pos rfl) rfl (h.oA 1)
  · rw [if_neg c1, refused_2]
    obtain ⟨r, X1, a, b, c, d⟩ := gapIn_lp c1 102 0 (yR X (xN X)) (oR (oA M 0) (h_X7_copyState (mN (oA M 0)) (mR (oA M 0)) 0 0)) (((h.oA 0).yR _).oR _) (cp_RS h _)
    exact ok_r (by rw [h_X6_gapIn, if_neg (fun z => c1 ((rq_len len).mp z))]; exact a) d c b
theorem sim_lp {m : Nat} (hm : m < 2 ^ 31) : ∀ (n k : Nat) (x : Int64) (X : Cx) (M : Mo), RelX X M → RS (xR X) (mR M) → k ≤ m → m < k + n → ∃ r X1, lp_xSim (nI m) n k x X = .inr (r, X1) ∧ r = (lp_rSim (nI m) n k x M).1 ∧ RelX X1 (lp_rSim (nI m) n k x M).2 ∧ mA (lp_rSim (nI m) n k x M).2 = mA M := by
  intro n
  induction n with
  | zero => intro k x X M h hr h1 h2; omega
  | succ n ih =>
    intro k x X M h hr h1 h2
    rw [lp_xSim, lp_rSim]
    by_cases c1 : nI m ≤ nI k
    · rw [if_pos c1, if_pos c1, many_eq hr.1 hr.2.ri, many_eq hr.1 hr.2.ri, many_eq h.nw.1 h.nw.2.ri, with_eq hr.1]
      exact ⟨_, X, rfl, rfl, h, rfl⟩
    · rw [if_neg c1, if_neg c1]
      rw [nI_leI (by omega) (by omega)] at c1
      obtain ⟨q, hq, eq⟩ := ush_n (f_X6_nextChance x)
      have t := turn_eq hr hq
      have e1 : (x * 6364136223846793005) + 1442695040888963407 = f_X6_nextChance x := rfl
      rw [e1, eq, nI_clamp hq]
      exact ih (k + 1) _ (yR X (h_X3_doTurn (xR X) (nI q))) (oR M (h_X7_turnOf (mR M) (nI (q % 8)) (q / 8))) ((h.yR _).oR _) t (by omega) (by omega)
set_option maxRecDepth 100000 in
theorem o_simulate {X : Cx} {M : Mo} (sd : Int64) (w : Int32) (h : RelX X M) : OpOk RelX "java/lang/IllegalArgumentException" (h_X6_simulate X sd w) X (h_X7_simulate M sd w) := by
  rw [h_X7_simulate, in_eq w 1 60 (by decide) (by decide)]
  by_cases c1 : w < 1
  · rw [if_pos c1, if_pos rfl, refused_2]
    exact ok_l (E := "java/lang/IllegalArgumentException") (by rw [h_X6_simulate, if_pos c1]) 1 (if_pos rfl) rfl (h.oA 1)
  · rw [if_neg c1]
    by_cases c2 : 60 < w
    · rw [if_pos c2, if_pos rfl, refused_2]
      exact ok_l (E := "java/lang/IllegalArgumentException") (by rw [h_X6_simulate, if_neg c1, if_neg (Int32.not_le.mpr c2)]) 1 (if_pos rfl) rfl (h.oA 1)
    · rw [if_neg c2, if_neg (show ¬ (1 : Int32) = 0 by decide), refused_2]
      have h0 : ¬ w < 0 := fun z => c1 (by
        rw [Int32.lt_iff_toInt_lt, show (0 : Int32).toInt = 0 by decide] at z
        rw [Int32.lt_iff_toInt_lt, show (1 : Int32).toInt = 1 by decide]
        omega)
      obtain ⟨m, hm, rfl⟩ := nI_of h0
      rw [nI_clamp hm]
      obtain ⟨r, X1, a, b, c, d⟩ := sim_lp hm (m + 1) 0 sd (yR X (xN X)) (oR (oA M 0) (h_X7_copyState (mN (oA M 0)) (mR (oA M 0)) 0 0)) (((h.oA 0).yR _).oR _) (cp_RS h _) (Nat.zero_le _) (by omega)
      refine ok_r ?_ d c b
      rw [h_X6_simulate, if_neg c1, if_pos (Int32.not_lt.mp c2), nI_clamp hm]
      exact a
/-! filling by chance -/
theorem sU_wH (S : St) (x : Int64) : sU (wH S x) = sU S := rfl
def RelC (S : St) (g : Rw) : Prop := sO S = g 3 ∧ f_X7_chance g = sH S ∧ (∀ x, x < 80 → g (7 + x) = sC S x) ∧ GapOk S g ∧ (∃ r, r ≤ 4 ∧ g 3 = nI r)
theorem RelC.occ {S : St} {g : Rw} (h : RelC S g) {a j : Nat} (mk : Int32) (haj : a + j ≤ 80) : RelC (h_X4_occupy S (nI a) (nI j) mk) (h_X7_fill g a j mk) ∧ sU (h_X4_occupy S (nI a) (nI j) mk) = sU S := by
  obtain ⟨h3, h5, hc, -, hr⟩ := h
  have hc' : ∀ x, x < 80 → h_X7_fill g a j mk (7 + x) = sC (wC S (mkC (sC S) a j mk)) x := fun x hx => by
    rw [fill_at g mk haj]
    show _ = mkC (sC S) a j mk x
    unfold mkC
    by_cases c : a ≤ x ∧ x < a + j
    · rw [if_pos ⟨by omega, by omega⟩, if_pos c]
    · rw [if_neg (by omega), if_neg c]
      exact hc x hx
  have f := findGaps_ok (wC S (mkC (sC S) a j mk)) hc'
  rw [occ_eq S mk haj]
  refine ⟨⟨?_, ?_, ?_, f.2, ?_⟩, ?_⟩
  · rw [f.1, fill_lo _ _ _ _ (by omega)]; exact h3
  · rw [f.1, chance_cong (fill_lo g a j mk (by omega)) (fill_lo g a j mk (by omega))]; exact h5
  · rw [f.1]; exact hc'
  · rw [fill_lo _ _ _ _ (by omega)]; exact hr
  · rw [f.1]; rfl
theorem RelC.chance {S : St} {g : Rw} (h : RelC S g) (x : Int64) : RelC (wH S x) (h_X7_layChance g x) := by
  obtain ⟨h3, h5, hc, hg, hr⟩ := h
  have lo : ∀ {i : Nat}, i ≠ 5 → i ≠ 6 → h_X7_layChance g x i = g i := fun a b => lay_3 g x a b
  exact ⟨h3.trans (lo (by omega) (by omega)).symm, chance_lay g x, fun y hy => (lo (by omega) (by omega)).trans (hc y hy), GapOk.cong (g := g) (fun i _ h8 => lo (by omega) (by omega)) hg, by rw [lo (by omega) (by omega)]; exact hr⟩
theorem fre_pos {g : Rw} {x : Nat} (hx : g (7 + x) = -1) : ∀ n, x < n → 1 ≤ fre g n := by
  intro n hn
  have h := fre_lt (g := g) (g' := upd g (7 + x) 0) hx (by rw [pk_us]; decide) n hn (fun i hi z => by
    by_cases e : i = x
    · subst e; exact hx
    · rw [pk_un (by omega)] at z; exact z)
  omega
set_option maxRecDepth 100000 in
theorem jam_lp {j : Nat} (j2 : 2 ≤ j) (j8 : j ≤ 8) : ∀ (n k : Nat) (S : St) (M : Mo) (g0 : Rw), RelC S g0 → sU S = 2 → mR M = (h_X7_byChance g0 (nI j)).2 → fre g0 80 + k ≤ 80 → (lp_fill (nI j) n k (h_X7_byChance g0 (nI j)).1 S).1 = (lp_rJam (nI j) n (nI k) (h_X7_byChance g0 (nI j)).1 M).1 ∧ (∀ X, RelX X M → RelX X (lp_rJam (nI j) n (nI k) (h_X7_byChance g0 (nI j)).1 M).2) ∧ mA (lp_rJam (nI j) n (nI k) (h_X7_byChance g0 (nI j)).1 M).2 = mA M := by
  intro n
  induction n with
  | zero => intro k S M g0 h hu hM hf; exact ⟨rfl, fun X hX => hX, rfl⟩
  | succ n ih =>
    intro k S M g0 h hu hM hf
    obtain ⟨r, hr, er⟩ := h.2.2.2.2
    rw [lp_fill, lp_rJam]
    by_cases c1 : (h_X7_byChance g0 (nI j)).1 = -1
    · rw [if_pos c1, if_pos c1]
      exact ⟨rfl, fun X hX => hX, rfl⟩
    · rw [if_neg c1, if_neg c1]
      obtain ⟨x, ex, hx8, hfr⟩ := (byChance_fr j8 hr er).resolve_left c1
      have hk : k < 80 := by
        have := fre_pos (hfr x (Nat.le_refl _) (by omega)) 80 (by omega)
        omega
      rw [if_neg (s80 hk)]
      have b2 := ((byChance_2 (j := j) ⟨by omega, j8⟩ hr er).resolve_left (fun z => c1 z.1)).2
      have h1 := h.chance (f_X6_nextChance (sH S))
      have eU : h_X4_useChance S = wH S (f_X6_nextChance (sH S)) := by rw [h_X4_useChance, if_pos hu]
      have eg : (h_X7_byChance g0 (nI j)).2 = h_X7_layChance g0 (f_X6_nextChance (sH S)) := by
        rw [b2, f_X6_nextChance, ← h.2.1]
      have h2 := h1.occ (a := x) (j := j) 100 hx8
      rw [ex, hM, eg, nI_clamp (by omega), nI_clamp (by omega), eU]
      have u2 : sU (h_X4_occupy (wH S (f_X6_nextChance (sH S))) (nI x) (nI j) 100) = 2 := h2.2.trans ((sU_wH S _).trans hu)
      have ep : f_X4_chosenPlace (h_X4_occupy (wH S (f_X6_nextChance (sH S))) (nI x) (nI j) 100) (nI j) = (h_X7_byChance (h_X7_fill (h_X7_layChance g0 (f_X6_nextChance (sH S))) x j 100) (nI j)).1 := by
        obtain ⟨q3, q5, qc, qg, q, hq, eq⟩ := h2.1
        rw [f_X4_chosenPlace, if_pos u2]
        exact chancePlace_eq ⟨by omega, j8⟩ hq eq q3 (by rw [q5, f_X6_nextChance]) qg
      have hf2 : fre (h_X7_fill (h_X7_layChance g0 (f_X6_nextChance (sH S))) x j 100) 80 < fre g0 80 := by
        refine fre_lt (x := x) (hfr x (Nat.le_refl _) (by omega)) ?_ 80 (by omega) (fun i hi z => ?_)
        · rw [fill_at _ _ hx8, if_pos (by omega)]; decide
        · rw [fill_at _ _ hx8] at z
          by_cases e : 7 + x ≤ 7 + i ∧ 7 + i < 7 + x + j
          · rw [if_pos e] at z; exact absurd z (by decide)
          · rw [if_neg e, lay_3 _ _ (by omega) (by omega)] at z; exact z
      rw [ep, nI_1]
      obtain ⟨a, b, c⟩ := ih (k + 1) _ (oR (oR M (h_X7_fill (h_X7_layChance g0 (f_X6_nextChance (sH S))) x j 100)) (h_X7_byChance (h_X7_fill (h_X7_layChance g0 (f_X6_nextChance (sH S))) x j 100) (nI j)).2) _ h2.1 u2 rfl (by omega)
      exact ⟨a, fun X hX => b X ((hX.oR _).oR _), c⟩
set_option maxRecDepth 100000 in
theorem o_jam {X : Cx} {M : Mo} (len : Int32) (sd : Int64) (h : RelX X M) : OpOk RelX "java/lang/IllegalArgumentException" (h_X6_jam X len sd) X (h_X7_jam M len sd) := by
  rw [h_X7_jam]
  by_cases c1 : f_X7_isLength len = 0
  · rw [if_pos c1, refused_2]
    exact ok_l (E := "java/lang/IllegalArgumentException") (by rw [h_X6_jam, if_pos ((rq_len len).mpr c1)]) 1 (if_pos rfl) rfl (h.oA 1)
  · rw [if_neg c1, refused_2]
    obtain ⟨j, j2, j8, rfl⟩ := len_2e c1
    have r := cp_RS h (mR M)
    obtain ⟨r1, r2, r3, r4⟩ := r.1
    have rc0 : RelC (wU (xN X) 2) (h_X7_copyState (mN M) (mR M) 0 0) := ⟨r1.2.2.2.1.symm, r1.2.2.2.2.2, r2, r4, r.2.ri.2.1⟩
    have rc := rc0.chance sd
    have ep : f_X4_chosenPlace (wH (wU (xN X) 2) sd) (nI j) = (h_X7_byChance (h_X7_layChance (h_X7_copyState (mN M) (mR M) 0 0) sd) (nI j)).1 := by
      obtain ⟨q3, q5, qc, qg, q, hq, eq⟩ := rc
      rw [f_X4_chosenPlace, if_pos (show sU (wH (wU (xN X) 2) sd) = 2 from rfl)]
      exact chancePlace_eq ⟨by omega, j8⟩ hq eq q3 (by rw [q5, f_X6_nextChance]) qg
    obtain ⟨a, b, c⟩ := jam_lp j2 j8 81 0 _ (oR (oR (oR (oA M 0) (h_X7_copyState (mN M) (mR M) 0 0)) (h_X7_layChance (h_X7_copyState (mN M) (mR M) 0 0) sd)) (h_X7_byChance (h_X7_layChance (h_X7_copyState (mN M) (mR M) 0 0) sd) (nI j)).2) _ rc rfl rfl (by have := fre_le (h_X7_layChance (h_X7_copyState (mN M) (mR M) 0 0) sd) 80; omega)
    have e : h_X6_jam X (nI j) sd = .inr ((lp_fill (nI j) 81 0 (h_X7_byChance (h_X7_layChance (h_X7_copyState (mN M) (mR M) 0 0) sd) (nI j)).1 (wH (wU (xN X) 2) sd)).1, yR (yR (yR (yR X (xN X)) (wU (xN X) 2)) (wH (wU (xN X) 2) sd)) (h_X4_fillWith (wH (wU (xN X) 2) sd) (nI j)).2) := by
      rw [h_X6_jam, if_neg (fun z => c1 ((rq_len (nI j)).mp z)), ← ep]
      rfl
    refine ok_r e c ?_ a
    exact b _ (((((((h.oA 0).oR _).oR _).oR _).yR _).yR _).yR _ |>.yR _)
