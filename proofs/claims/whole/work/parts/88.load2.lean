set_option maxRecDepth 100000 in
theorem text_all {X : Cx} {M : Mo} (h : RelX X M) : f_X5_firstError (xT X) = (h_X7_readText M).1 ∧ Kept (h_X7_readText M).2 M ∧ ((h_X7_readText M).1 = -1 → ∃ S', RS S' (mR (h_X7_readText M).2) ∧ ∀ X2, xT X2 = xT X → xN X2 = h_X4_makeNew (xN X) → lp_xLoad 121 0 0 1 X2 = .inr (mO (h_X7_readText M).2, yN X2 S')) := by
  have ht : TR (xT X) M := ⟨h.tl.1.trans h.tz, h.t120, h.tl.2⟩
  have rs := new_RS (xN X) (mR M)
  rw [h_X7_readText]
  generalize h_X7_clear (mR M) = g0 at rs ⊢
  have kp : Kept (oS (oO (oR M g0) 0) 0) M := ⟨⟨rfl, rfl, rfl, rfl, rfl, rfl⟩, rfl, rfl⟩
  have eZ : mZ (oS (oO (oR M g0) 0) 0) = mZ M := rfl
  have eT : mT (oS (oO (oR M g0) 0) 0) = mT M := rfl
  rw [eZ, eT, f_X5_firstError]
  have l0 : f_X5_letterAt (xT X) 0 = f_X5_letterAt (xT X) (nI 0) := rfl
  by_cases c1 : mZ M = 0
  · have z0 : zz M = 0 := by rw [zz, c1]; rfl
    rw [if_pos c1, l0, let_out ht (by omega) (by omega), if_neg (by decide)]
    exact ⟨rfl, kp, fun z => absurd (show (0 : Int32) = -1 from z) (by decide)⟩
  · have z1 : 1 ≤ zz M := by
      rcases Nat.eq_zero_or_pos (zz M) with z | z
      · rw [h.tz, z] at c1; exact absurd rfl c1
      · exact z
    rw [if_neg c1, l0, let_in ht (by omega)]
    by_cases c2 : mT M 0 = 83
    · rw [if_pos c2, if_pos c2]
      have t := txt_TI (g := g0) ⟨h.tz, h.t120⟩ c1
      have ez : zz (oS (oS (oO (oR M g0) 0) 0) 1) = zz M := rfl
      have es : sp (oS (oS (oO (oR M g0) 0) 0) 1) = 1 := rfl
      have k1 : Kept (oS (oS (oO (oR M g0) 0) 0) 1) M := ⟨⟨rfl, rfl, rfl, rfl, rfl, rfl⟩, rfl, rfl⟩
      have eO : mO (oS (oS (oO (oR M g0) 0) 0) 1) = 0 := rfl
      have eRr : mR (oS (oS (oO (oR M g0) 0) 0) 1) = g0 := by rw [mR_oS, mR_oS, mR_oO, mR_oR]
      have ht1 : TR (xT X) (oS (oS (oO (oR M g0) 0) 0) 1) := ht.kept k1
      generalize oS (oS (oO (oR M g0) 0) 0) 1 = M1 at t ez es k1 eO eRr ht1 ⊢
      have q := text_lp (T := xT X) 122 121 0 M1 (h_X4_makeNew (xN X)) ht1 t (by rw [eRr]; exact rs) (by omega) (by have := h.t120; omega) (by have := h.t120; omega)
      rw [es, eO] at q
      exact ⟨q.1, q.2.1.tr k1, q.2.2⟩
    · rw [if_neg c2, if_neg c2]
      exact ⟨rfl, kp, fun z => absurd (show (0 : Int32) = -1 from z) (by decide)⟩
theorem o_errorPosition {X : Cx} {M : Mo} (h : RelX X M) : (h_X6_errorPosition X).1 = (h_X7_errorPosition M).1 ∧ RelX (h_X6_errorPosition X).2 (h_X7_errorPosition M).2 := by
  rw [h_X6_errorPosition, h_X7_errorPosition]
  obtain ⟨a, b, -⟩ := text_all (h.oA 0)
  exact ⟨a, (h.oA 0).keep b.1 b.2.1 b.2.2⟩
theorem empty_n (D : Sl) : h_X1_empty D = (vF D, upd (upd (vB D) 0 (vp_nar .boolean 0)) 1 (vp_nar .boolean 0)) := rfl
theorem nar_b0 : vp_nar .boolean 0 = 0 := by decide
theorem relx_load {X X0 : Cx} {M : Mo} (hk : RelX X M) (hT : xT X0 = xT X) {S' : St} {g : Rw} (r : RS S' g) : RelX (yN (yS (yH X0 (uK (xH X) 0)) (vF (xS X), upd (upd (vB (xS X)) 0 0) 1 0)) S') (oI (oI (oC (oN M g) 0) (upd (mI M) 0 0)) (upd (upd (mI M) 0 0) 1 0)) := by
  refine ⟨hk.tz, hk.t120, ?_, r, hk.ho, show 0 ≤ 14 by omega, rfl, fun i hi => ?_, fun j hj => ?_⟩
  · show tZ (xT X0) = _ ∧ ∀ i, i < _ → tL (xT X0) i = _
    rw [hT]
    exact hk.tl
  · have hi' : i < 0 := hi
    omega
  · show upd (upd (vB (xS X)) 0 0) 1 0 j = upd (upd (mI M) 0 0) 1 0 j ∧ (¬ upd (upd (mI M) 0 0) 1 0 j = 0 → _)
    rcases (show j = 0 ∨ j = 1 by omega) with rfl | rfl
    · rw [pk_un (by omega), pk_us, pk_un (by omega), pk_us]
      exact ⟨rfl, fun z => absurd rfl z⟩
    · rw [pk_us, pk_us]
      exact ⟨rfl, fun z => absurd rfl z⟩
theorem clamp0 : (0 : Int32).toNatClampNeg = 0 := by decide
theorem clamp1 : (1 : Int32).toNatClampNeg = 1 := by decide
set_option maxRecDepth 100000 in
theorem o_load {X : Cx} {M : Mo} {f : Nat → Int64} (h : RelX X M) : OpOk RelX (wr "java/lang/IllegalStateException" (h_X6_load X) (X, f)) (h_X7_load M) := by
  obtain ⟨a, b, c⟩ := text_all h
  have hk := h.keep b.1 b.2.1 b.2.2
  rw [h_X7_load, clamp0, clamp1, nar_b0]
  generalize h_X7_readText M = Q at a b c hk ⊢
  by_cases c1 : Q.1 = -1
  · obtain ⟨S', s1, s2⟩ := c c1
    rw [if_pos c1, refused_2]
    have y := s2 (yS (yH (yN X (h_X4_makeNew (xN X))) (h_X0_forget (xH (yN X (h_X4_makeNew (xN X)))))) (h_X1_empty (xS (yH (yN X (h_X4_makeNew (xN X))) (h_X0_forget (xH (yN X (h_X4_makeNew (xN X))))))))) rfl rfl
    have e : h_X6_load X = .inr (mO Q.2, yN (yS (yH (yN X (h_X4_makeNew (xN X))) (uK (xH X) 0)) (vF (xS X), upd (upd (vB (xS X)) 0 0) 1 0)) S') := by
      rw [h_X6_load, if_pos (a.trans c1)]
      exact y
    have r : RS S' (h_X7_copyState (mR (oA Q.2 0)) (mN (oA Q.2 0)) 0 0) := s1.cong fun i hi => cp_00 _ _ hi
    generalize h_X7_copyState (mR (oA Q.2 0)) (mN (oA Q.2 0)) 0 0 = g at r ⊢
    refine ok_r e rfl ?_ rfl
    exact relx_load (X0 := yN X (h_X4_makeNew (xN X))) (hk.oA 0) rfl r
  · rw [if_neg c1, refused_2]
    exact ok_l (E := "java/lang/IllegalStateException") (by rw [h_X6_load, if_neg (fun z => c1 (a.symm.trans z))]) 1 (if_pos rfl) rfl (hk.oA 1)
