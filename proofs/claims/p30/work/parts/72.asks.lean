theorem nar_c : ∀ n, n < 256 → vp_nar .char (jChar (nI n)) = nI n := by decide +kernel
theorem RelX.text {X : Cx} {M M' : Mo} (h : RelX X M) {T : Tt} (e : mN M' = mN M ∧ mC M' = mC M ∧ mD M' = mD M ∧ mI M' = mI M ∧ mK M' = mK M) (tz : mZ M' = nI (zz M')) (t120 : zz M' ≤ 120) (tl : tZ T = mZ M' ∧ ∀ i, i < zz M' → tL T i = mT M' i) : RelX (yT X T) M' := by
  obtain ⟨eN, eC, eD, eI, eK⟩ := e
  exact ⟨tz, t120, tl, by rw [eN]; exact h.nw, h.ho, h.hk, by rw [eC]; exact h.hc, fun i hi => by rw [eD]; exact h.hr i hi, fun j hj => by rw [eI, eK]; exact h.sl j hj⟩
theorem zz_of {M : Mo} {n : Nat} (h : mZ M = nI n) (hn : n < 2 ^ 31) : zz M = n := by rw [zz, h, nI_clamp hn]
theorem o_append {X : Cx} {M : Mo} (c : Int32) (h : RelX X M) : OpOk RelX "java/lang/IllegalArgumentException" (h_X6_append X c) X (h_X7_append M c) := by
  have h120 := h.t120
  have hz := h.tz
  rw [h_X7_append, in_eq c 0 255 (by decide) (by decide)]
  by_cases c1 : c < 0
  · rw [if_pos c1, if_pos rfl, refused_2]
    exact ok_l (E := "java/lang/IllegalArgumentException") (by rw [h_X6_append, if_pos c1]) 1 (if_pos rfl) rfl (h.oA 1)
  · rw [if_neg c1]
    obtain ⟨n, hn, rfl⟩ := nI_of c1
    have e255 : (255 : Int32) < nI n ↔ 255 < n := nI_ltI (a := 255) (by omega) hn
    have l255 : nI n ≤ (255 : Int32) ↔ n ≤ 255 := nI_leI (b := 255) hn (by omega)
    by_cases c2 : 255 < n
    · rw [if_pos (e255.mpr c2), if_pos rfl, refused_2]
      exact ok_l (E := "java/lang/IllegalArgumentException") (by rw [h_X6_append, if_neg c1, if_neg (fun z => by have := l255.mp z; omega)]) 1 (if_pos rfl) rfl (h.oA 1)
    · rw [if_neg (fun z => c2 (e255.mp z)), if_neg (show ¬ (1 : Int32) = 0 by decide)]
      have efull : f_X5_isFull (xT X) = 0 ↔ zz M < 120 := by
        rw [f_X5_isFull, b01, h.tl.1, hz]
        exact nI_ltI (b := 120) (by omega) (by omega)
      by_cases c3 : mZ M = 120
      · have z3 : zz M = 120 := by
          rw [hz] at c3
          exact nI_inj (b := 120) (by omega) (by omega) c3
        rw [if_pos c3, refused_2]
        exact ok_l (E := "java/lang/IllegalStateException") (by rw [h_X6_append, if_neg c1, if_pos (l255.mpr (by omega)), if_neg (fun z => by have := efull.mp z; omega)]) 2 (if_neg (by decide)) rfl (h.oA 2)
      · have z3 : zz M < 120 := by
          rcases Nat.lt_or_ge (zz M) 120 with z | z
          · exact z
          · exfalso
            apply c3
            rw [hz, show zz M = 120 by omega]
            rfl
        rw [if_neg c3, refused_2]
        have eT : tZ (xT X) = nI (zz M) := h.tl.1.trans hz
        have e : h_X6_append X (nI n) = .inr (nI (zz M + 1), yT X (upd (tL (xT X)) (zz M) (nI n), nI (zz M + 1))) := by
          rw [h_X6_append, if_neg c1, if_pos (l255.mpr (by omega)), if_pos (efull.mpr z3), h_X5_add, eT, if_neg (nI_pos (by omega)), if_neg (show ¬ (120 : Int32) ≤ nI (zz M) from fun z => by
            have := (nI_leI (a := 120) (by omega) (by omega)).mp z
            omega), nI_clamp (by omega), nar_c n (by omega)]
          show Sum.inr (tZ (xT X) + 1, yT X (upd (tL (xT X)) (zz M) (nI n), tZ (xT X) + 1)) = _
          rw [eT, nI_1]
        have ez : mZ M + 1 = nI (zz M + 1) := by rw [hz, nI_1]
        have zz1 : zz (oZ (oT (oA M 0) (upd (mT (oA M 0)) (zz M) (nI n))) (mZ (oT (oA M 0) (upd (mT (oA M 0)) (zz M) (nI n))) + 1)) = zz M + 1 := zz_of ez (by omega)
        refine ok_r e rfl ?_ ez.symm
        refine h.text (M' := oZ (oT (oA M 0) (upd (mT (oA M 0)) (zz M) (nI n))) (mZ (oT (oA M 0) (upd (mT (oA M 0)) (zz M) (nI n))) + 1)) ⟨rfl, rfl, rfl, rfl, rfl⟩ (by rw [zz1]; exact ez) (by rw [zz1]; omega) ⟨ez.symm, fun i hi => ?_⟩
        rw [zz1] at hi
        show upd (tL (xT X)) (zz M) (nI n) i = upd (mT M) (zz M) (nI n) i
        by_cases ei : i = zz M
        · rw [ei, pk_us, pk_us]
        · rw [pk_un ei, pk_un ei]
          exact h.tl.2 i (by omega)
theorem o_at {X : Cx} {M : Mo} (x : Int32) (h : RelX X M) : OpOk RelX "java/lang/IndexOutOfBoundsException" (h_X6_at X x) X (h_X7_at M x) := by
  rw [h_X7_at]
  by_cases c1 : f_X7_isCell x = 0
  · rw [if_pos c1, refused_2]
    exact ok_l (E := "java/lang/IndexOutOfBoundsException") (by rw [h_X6_at, if_pos ((rq_cell x).mpr c1)]) 1 (if_pos rfl) rfl (h.oA 1)
  · rw [if_neg c1, refused_2]
    refine ok_r (by rw [h_X6_at, if_neg (fun z => c1 ((rq_cell x).mp z))]) rfl (h.oA 0) ?_
    obtain ⟨j, hj, rfl⟩ := rcell_n c1
    show _ = mN M ((7 : Int32) + nI j).toNatClampNeg
    rw [get_n _ hj (by omega), show (7 : Int32) + nI j = nI (7 + j) from nI_add 7 j, nI_clamp (by omega), h.nw.1.2.1 j hj]
theorem reason_eq {S : St} {g : Rw} (h : Rel S g) (len : Int32) : f_X4_reasonAgainst S len = f_X7_reason g len := by
  rw [f_X4_reasonAgainst, f_X7_reason, f_X7_suffices, longestGap_eq h.2.2.2, h.1.2.2.2.1]
  by_cases c1 : len ≤ nI (f_X7_longest g)
  · rw [if_pos c1, if_pos c1]
    by_cases c2 : len + sO S ≤ nI (f_X7_longest g)
    · rw [if_pos c2, if_neg (Int32.not_lt.mpr c2), if_neg (by decide)]
    · rw [if_neg c2, if_pos (Int32.not_le.mp c2), if_pos rfl]
  · rw [if_neg c1, if_neg c1]
theorem o_why {X : Cx} {M : Mo} (len : Int32) (h : RelX X M) : OpOk RelX "java/lang/IllegalArgumentException" (h_X6_why X len) X (h_X7_why M len) := by
  rw [h_X7_why]
  by_cases c1 : f_X7_isLength len = 0
  · rw [if_pos c1, refused_2]
    exact ok_l (E := "java/lang/IllegalArgumentException") (by rw [h_X6_why, if_pos ((rq_len len).mpr c1)]) 1 (if_pos rfl) rfl (h.oA 1)
  · rw [if_neg c1, refused_2]
    exact ok_r (by rw [h_X6_why, if_neg (fun z => c1 ((rq_len len).mp z))]) rfl (h.oA 0) (reason_eq h.nw.1 len)
set_option maxRecDepth 100000 in
theorem o_place {X : Cx} {M : Mo} (len : Int32) (h : RelX X M) : OpOk RelX "java/lang/IllegalArgumentException" (h_X6_place X len) X (h_X7_place M len) := by
  rw [h_X7_place]
  by_cases c1 : f_X7_isLength len = 0
  · rw [if_pos c1, refused_2]
    exact ok_l (E := "java/lang/IllegalArgumentException") (by rw [h_X6_place, if_pos ((rq_len len).mpr c1)]) 1 (if_pos rfl) rfl (h.oA 1)
  · rw [if_neg c1, refused_2]
    obtain ⟨j, j2, j8, rfl⟩ := len_2e c1
    have r : RS (xN X) (h_X7_copyState (mN M) (mR M) 0 0) := h.nw.cong fun i hi => cp_00 _ _ hi
    exact ok_r (by rw [h_X6_place, if_neg (fun z => c1 ((rq_len (nI j)).mp z))]) rfl (((h.oA 0).oR _).oR _) (place_eq r.1 r.2.ri (j := j) ⟨by omega, j8⟩)
theorem slot_lt {x : Int32} (h : ¬ f_X7_in x.toInt64 0 1 = 0) : x = nI 0 ∨ x = nI 1 := by
  obtain ⟨j, hj, rfl⟩ := slot_n h
  rcases (show j = 0 ∨ j = 1 by omega) with rfl | rfl
  · exact Or.inl rfl
  · exact Or.inr rfl
theorem rq_slot (x : Int32) : f_X6_requireSlot x = 0 ↔ f_X7_in x.toInt64 0 1 = 0 := by
  rw [in_eq x 0 1 (by decide) (by decide), f_X6_requireSlot]
  by_cases c1 : x < 0
  · rw [if_pos c1, if_pos c1]
  · rw [if_neg c1, if_neg c1]
    obtain ⟨n, hn, rfl⟩ := nI_of c1
    have e1 : nI n < (2 : Int32) ↔ n < 2 := nI_ltI (b := 2) hn (by omega)
    have e2 : (1 : Int32) < nI n ↔ 1 < n := nI_ltI (a := 1) (by omega) hn
    by_cases c2 : n < 2
    · rw [if_pos (e1.mpr c2), if_neg (fun z => by have := e2.mp z; omega)]
    · rw [if_neg (fun z => c2 (e1.mp z)), if_pos (e2.mpr (by omega))]
theorem rq_01 (x : Int32) : f_X6_requireZeroOrOne x = 0 ↔ f_X7_in x.toInt64 0 1 = 0 := by
  rw [f_X6_requireZeroOrOne]
  by_cases c : f_X7_in x.toInt64 0 1 = 0
  · have h0 : ¬ x = 0 := fun z => by rw [z] at c; exact absurd c (by decide +kernel)
    have h1 : ¬ x = 1 := fun z => by rw [z] at c; exact absurd c (by decide +kernel)
    rw [if_neg h0, if_neg h1]
    exact ⟨fun _ => c, fun _ => rfl⟩
  · rcases slot_lt c with z | z
    · rw [if_pos (show x = 0 from z)]; exact ⟨fun w => absurd w (by decide), fun w => absurd w c⟩
    · rw [if_neg (show ¬ x = 0 from fun w => by rw [z] at w; exact absurd w (by decide)), if_pos (show x = 1 from z)]; exact ⟨fun w => absurd w (by decide), fun w => absurd w c⟩
theorem o_setting {X : Cx} {M : Mo} (w : Int32) (h : RelX X M) : OpOk RelX "java/lang/IllegalArgumentException" (h_X6_setting X w) X (h_X7_setting M w) := by
  obtain ⟨⟨a, ha, ea⟩, b, hb, eb⟩ := h.nw.2.nu
  obtain ⟨r, hr, er⟩ := h.nw.2.ri.2.1
  rw [h_X7_setting]
  by_cases c1 : f_X7_in w.toInt64 0 2 = 0
  · have h0 : ¬ w = 0 := fun z => by rw [z] at c1; exact absurd c1 (by decide +kernel)
    have h1 : ¬ w = 1 := fun z => by rw [z] at c1; exact absurd c1 (by decide +kernel)
    have h2 : ¬ w = 2 := fun z => by rw [z] at c1; exact absurd c1 (by decide +kernel)
    rw [if_pos c1, refused_2]
    exact ok_l (E := "java/lang/IllegalArgumentException") (by rw [h_X6_setting, f_X4_settingOf, if_neg h0, if_neg h1, if_neg h2, if_pos rfl]) 1 (if_pos rfl) rfl (h.oA 1)
  · rw [if_neg c1, refused_2]
    obtain ⟨j, hj, rfl⟩ := in_nat (a := 2) (by decide) (by decide) c1
    have hn : f_X4_settingOf (xN X) (nI j) = mN M (2 + j) ∧ ¬ mN M (2 + j) = -1 := by
      rw [f_X4_settingOf]
      rcases (show j = 0 ∨ j = 1 ∨ j = 2 by omega) with rfl | rfl | rfl
      · rw [if_pos (show nI 0 = 0 by decide)]
        exact ⟨h.nw.1.1.2.2.1.symm, by rw [ea]; exact nI_m1 (by omega)⟩
      · rw [if_neg (by decide), if_pos (show nI 1 = 1 by decide)]
        exact ⟨h.nw.1.1.2.2.2.1.symm, by rw [er]; exact nI_m1 (by omega)⟩
      · rw [if_neg (by decide), if_neg (by decide), if_pos (show nI 2 = 2 by decide)]
        exact ⟨h.nw.1.1.2.2.2.2.1.symm, by rw [eb]; exact nI_m1 (by omega)⟩
    refine ok_r (r := mN M (2 + j)) (X1 := X) (by rw [h_X6_setting, hn.1, if_neg hn.2]) rfl (h.oA 0) ?_
    show _ = mN M ((2 : Int32) + nI j).toNatClampNeg
    rw [show (2 : Int32) + nI j = nI (2 + j) from nI_add 2 j, nI_clamp (by omega)]
