theorem Rel.qL {S : St} {g : Rw} (h : Rel S g) {c : Nat} (hc : c < 40) (v : Int32) : Rel (pL S (nI c) v) (h_X7_lay g c 0 v) := by
  obtain ⟨⟨h0, h1, h2, h3, h4, h5⟩, hc8, hr, hg⟩ := h
  rw [show pL S (nI c) v = wL S (upd (sL S) c v) by rw [pL, put_n _ _ hc (by omega)]]
  refine ⟨⟨(lay_lo g v (by omega)).trans h0, (lay_lo g v (by omega)).trans h1, (lay_lo g v (by omega)).trans h2, (lay_lo g v (by omega)).trans h3, (lay_lo g v (by omega)).trans h4, (chance_cong (lay_lo g v (by omega)) (lay_lo g v (by omega))).trans h5⟩, fun x hx => (lay_lo g v (by omega)).trans (hc8 x hx), fun d hd => ?_, GapOk.cong (g := g) (fun i _ h8 => lay_lo g v (by omega)) hg⟩
  rw [gm_cong (lay_lo g v (by omega))] at hd
  obtain ⟨r0, r1, r2, r3, r4, r5⟩ := hr d hd
  by_cases e : c = d
  · subst e
    refine ⟨?_, ?_, ?_, ?_, ?_, ?_⟩
    · rw [of_lay_eq]; exact (pk_us).symm
    · rw [of_lay_ne _ _ (by omega) (by omega) (Or.inr (by omega))]; exact r1
    · rw [of_lay_ne _ _ (by omega) (by omega) (Or.inr (by omega))]; exact r2
    · rw [of_lay_ne _ _ (by omega) (by omega) (Or.inr (by omega))]; exact r3
    · rw [of_lay_ne _ _ (by omega) (by omega) (Or.inr (by omega))]; exact r4
    · rw [of_lay_ne _ _ (by omega) (by omega) (Or.inr (by omega))]; exact r5
  · refine ⟨?_, ?_, ?_, ?_, ?_, ?_⟩
    · rw [of_lay_ne _ _ (by omega) (by omega) (Or.inl e)]; exact r0.trans (pk_un (fun z => e z.symm)).symm
    · rw [of_lay_ne _ _ (by omega) (by omega) (Or.inl e)]; exact r1
    · rw [of_lay_ne _ _ (by omega) (by omega) (Or.inl e)]; exact r2
    · rw [of_lay_ne _ _ (by omega) (by omega) (Or.inl e)]; exact r3
    · rw [of_lay_ne _ _ (by omega) (by omega) (Or.inl e)]; exact r4
    · rw [of_lay_ne _ _ (by omega) (by omega) (Or.inl e)]; exact r5
theorem Rel.qY {S : St} {g : Rw} (h : Rel S g) {c : Nat} (hc : c < 40) (v : Int32) : Rel (pY S (nI c) v) (h_X7_lay g c 1 v) := by
  obtain ⟨⟨h0, h1, h2, h3, h4, h5⟩, hc8, hr, hg⟩ := h
  rw [show pY S (nI c) v = wY S (upd (sY S) c v) by rw [pY, put_n _ _ hc (by omega)]]
  refine ⟨⟨(lay_lo g v (by omega)).trans h0, (lay_lo g v (by omega)).trans h1, (lay_lo g v (by omega)).trans h2, (lay_lo g v (by omega)).trans h3, (lay_lo g v (by omega)).trans h4, (chance_cong (lay_lo g v (by omega)) (lay_lo g v (by omega))).trans h5⟩, fun x hx => (lay_lo g v (by omega)).trans (hc8 x hx), fun d hd => ?_, GapOk.cong (g := g) (fun i _ h8 => lay_lo g v (by omega)) hg⟩
  rw [gm_cong (lay_lo g v (by omega))] at hd
  obtain ⟨r0, r1, r2, r3, r4, r5⟩ := hr d hd
  by_cases e : c = d
  · subst e
    refine ⟨?_, ?_, ?_, ?_, ?_, ?_⟩
    · rw [of_lay_ne _ _ (by omega) (by omega) (Or.inr (by omega))]; exact r0
    · rw [of_lay_eq]; exact (pk_us).symm
    · rw [of_lay_ne _ _ (by omega) (by omega) (Or.inr (by omega))]; exact r2
    · rw [of_lay_ne _ _ (by omega) (by omega) (Or.inr (by omega))]; exact r3
    · rw [of_lay_ne _ _ (by omega) (by omega) (Or.inr (by omega))]; exact r4
    · rw [of_lay_ne _ _ (by omega) (by omega) (Or.inr (by omega))]; exact r5
  · refine ⟨?_, ?_, ?_, ?_, ?_, ?_⟩
    · rw [of_lay_ne _ _ (by omega) (by omega) (Or.inl e)]; exact r0
    · rw [of_lay_ne _ _ (by omega) (by omega) (Or.inl e)]; exact r1.trans (pk_un (fun z => e z.symm)).symm
    · rw [of_lay_ne _ _ (by omega) (by omega) (Or.inl e)]; exact r2
    · rw [of_lay_ne _ _ (by omega) (by omega) (Or.inl e)]; exact r3
    · rw [of_lay_ne _ _ (by omega) (by omega) (Or.inl e)]; exact r4
    · rw [of_lay_ne _ _ (by omega) (by omega) (Or.inl e)]; exact r5
theorem Rel.qT {S : St} {g : Rw} (h : Rel S g) {c : Nat} (hc : c < 40) (v : Int32) : Rel (pT S (nI c) v) (h_X7_lay g c 2 v) := by
  obtain ⟨⟨h0, h1, h2, h3, h4, h5⟩, hc8, hr, hg⟩ := h
  rw [show pT S (nI c) v = wT S (upd (sT S) c v) by rw [pT, put_n _ _ hc (by omega)]]
  refine ⟨⟨(lay_lo g v (by omega)).trans h0, (lay_lo g v (by omega)).trans h1, (lay_lo g v (by omega)).trans h2, (lay_lo g v (by omega)).trans h3, (lay_lo g v (by omega)).trans h4, (chance_cong (lay_lo g v (by omega)) (lay_lo g v (by omega))).trans h5⟩, fun x hx => (lay_lo g v (by omega)).trans (hc8 x hx), fun d hd => ?_, GapOk.cong (g := g) (fun i _ h8 => lay_lo g v (by omega)) hg⟩
  rw [gm_cong (lay_lo g v (by omega))] at hd
  obtain ⟨r0, r1, r2, r3, r4, r5⟩ := hr d hd
  by_cases e : c = d
  · subst e
    refine ⟨?_, ?_, ?_, ?_, ?_, ?_⟩
    · rw [of_lay_ne _ _ (by omega) (by omega) (Or.inr (by omega))]; exact r0
    · rw [of_lay_ne _ _ (by omega) (by omega) (Or.inr (by omega))]; exact r1
    · rw [of_lay_eq]; exact (pk_us).symm
    · rw [of_lay_ne _ _ (by omega) (by omega) (Or.inr (by omega))]; exact r3
    · rw [of_lay_ne _ _ (by omega) (by omega) (Or.inr (by omega))]; exact r4
    · rw [of_lay_ne _ _ (by omega) (by omega) (Or.inr (by omega))]; exact r5
  · refine ⟨?_, ?_, ?_, ?_, ?_, ?_⟩
    · rw [of_lay_ne _ _ (by omega) (by omega) (Or.inl e)]; exact r0
    · rw [of_lay_ne _ _ (by omega) (by omega) (Or.inl e)]; exact r1
    · rw [of_lay_ne _ _ (by omega) (by omega) (Or.inl e)]; exact r2.trans (pk_un (fun z => e z.symm)).symm
    · rw [of_lay_ne _ _ (by omega) (by omega) (Or.inl e)]; exact r3
    · rw [of_lay_ne _ _ (by omega) (by omega) (Or.inl e)]; exact r4
    · rw [of_lay_ne _ _ (by omega) (by omega) (Or.inl e)]; exact r5
theorem Rel.qP {S : St} {g : Rw} (h : Rel S g) {c : Nat} (hc : c < 40) (v : Int32) : Rel (pP S (nI c) v) (h_X7_lay g c 3 v) := by
  obtain ⟨⟨h0, h1, h2, h3, h4, h5⟩, hc8, hr, hg⟩ := h
  rw [show pP S (nI c) v = wP S (upd (sP S) c v) by rw [pP, put_n _ _ hc (by omega)]]
  refine ⟨⟨(lay_lo g v (by omega)).trans h0, (lay_lo g v (by omega)).trans h1, (lay_lo g v (by omega)).trans h2, (lay_lo g v (by omega)).trans h3, (lay_lo g v (by omega)).trans h4, (chance_cong (lay_lo g v (by omega)) (lay_lo g v (by omega))).trans h5⟩, fun x hx => (lay_lo g v (by omega)).trans (hc8 x hx), fun d hd => ?_, GapOk.cong (g := g) (fun i _ h8 => lay_lo g v (by omega)) hg⟩
  rw [gm_cong (lay_lo g v (by omega))] at hd
  obtain ⟨r0, r1, r2, r3, r4, r5⟩ := hr d hd
  by_cases e : c = d
  · subst e
    refine ⟨?_, ?_, ?_, ?_, ?_, ?_⟩
    · rw [of_lay_ne _ _ (by omega) (by omega) (Or.inr (by omega))]; exact r0
    · rw [of_lay_ne _ _ (by omega) (by omega) (Or.inr (by omega))]; exact r1
    · rw [of_lay_ne _ _ (by omega) (by omega) (Or.inr (by omega))]; exact r2
    · rw [of_lay_eq]; exact (pk_us).symm
    · rw [of_lay_ne _ _ (by omega) (by omega) (Or.inr (by omega))]; exact r4
    · rw [of_lay_ne _ _ (by omega) (by omega) (Or.inr (by omega))]; exact r5
  · refine ⟨?_, ?_, ?_, ?_, ?_, ?_⟩
    · rw [of_lay_ne _ _ (by omega) (by omega) (Or.inl e)]; exact r0
    · rw [of_lay_ne _ _ (by omega) (by omega) (Or.inl e)]; exact r1
    · rw [of_lay_ne _ _ (by omega) (by omega) (Or.inl e)]; exact r2
    · rw [of_lay_ne _ _ (by omega) (by omega) (Or.inl e)]; exact r3.trans (pk_un (fun z => e z.symm)).symm
    · rw [of_lay_ne _ _ (by omega) (by omega) (Or.inl e)]; exact r4
    · rw [of_lay_ne _ _ (by omega) (by omega) (Or.inl e)]; exact r5
theorem Rel.qK {S : St} {g : Rw} (h : Rel S g) {c : Nat} (hc : c < 40) (v : Int32) : Rel (pK S (nI c) v) (h_X7_lay g c 4 v) := by
  obtain ⟨⟨h0, h1, h2, h3, h4, h5⟩, hc8, hr, hg⟩ := h
  rw [show pK S (nI c) v = wK S (upd (sK S) c v) by rw [pK, put_n _ _ hc (by omega)]]
  refine ⟨⟨(lay_lo g v (by omega)).trans h0, (lay_lo g v (by omega)).trans h1, (lay_lo g v (by omega)).trans h2, (lay_lo g v (by omega)).trans h3, (lay_lo g v (by omega)).trans h4, (chance_cong (lay_lo g v (by omega)) (lay_lo g v (by omega))).trans h5⟩, fun x hx => (lay_lo g v (by omega)).trans (hc8 x hx), fun d hd => ?_, GapOk.cong (g := g) (fun i _ h8 => lay_lo g v (by omega)) hg⟩
  rw [gm_cong (lay_lo g v (by omega))] at hd
  obtain ⟨r0, r1, r2, r3, r4, r5⟩ := hr d hd
  by_cases e : c = d
  · subst e
    refine ⟨?_, ?_, ?_, ?_, ?_, ?_⟩
    · rw [of_lay_ne _ _ (by omega) (by omega) (Or.inr (by omega))]; exact r0
    · rw [of_lay_ne _ _ (by omega) (by omega) (Or.inr (by omega))]; exact r1
    · rw [of_lay_ne _ _ (by omega) (by omega) (Or.inr (by omega))]; exact r2
    · rw [of_lay_ne _ _ (by omega) (by omega) (Or.inr (by omega))]; exact r3
    · rw [of_lay_eq]; exact (pk_us).symm
    · rw [of_lay_ne _ _ (by omega) (by omega) (Or.inr (by omega))]; exact r5
  · refine ⟨?_, ?_, ?_, ?_, ?_, ?_⟩
    · rw [of_lay_ne _ _ (by omega) (by omega) (Or.inl e)]; exact r0
    · rw [of_lay_ne _ _ (by omega) (by omega) (Or.inl e)]; exact r1
    · rw [of_lay_ne _ _ (by omega) (by omega) (Or.inl e)]; exact r2
    · rw [of_lay_ne _ _ (by omega) (by omega) (Or.inl e)]; exact r3
    · rw [of_lay_ne _ _ (by omega) (by omega) (Or.inl e)]; exact r4.trans (pk_un (fun z => e z.symm)).symm
    · rw [of_lay_ne _ _ (by omega) (by omega) (Or.inl e)]; exact r5
theorem Rel.qR {S : St} {g : Rw} (h : Rel S g) {c : Nat} (hc : c < 40) (v : Int32) : Rel (pR S (nI c) v) (h_X7_lay g c 5 v) := by
  obtain ⟨⟨h0, h1, h2, h3, h4, h5⟩, hc8, hr, hg⟩ := h
  rw [show pR S (nI c) v = wR S (upd (sR S) c v) by rw [pR, put_n _ _ hc (by omega)]]
  refine ⟨⟨(lay_lo g v (by omega)).trans h0, (lay_lo g v (by omega)).trans h1, (lay_lo g v (by omega)).trans h2, (lay_lo g v (by omega)).trans h3, (lay_lo g v (by omega)).trans h4, (chance_cong (lay_lo g v (by omega)) (lay_lo g v (by omega))).trans h5⟩, fun x hx => (lay_lo g v (by omega)).trans (hc8 x hx), fun d hd => ?_, GapOk.cong (g := g) (fun i _ h8 => lay_lo g v (by omega)) hg⟩
  rw [gm_cong (lay_lo g v (by omega))] at hd
  obtain ⟨r0, r1, r2, r3, r4, r5⟩ := hr d hd
  by_cases e : c = d
  · subst e
    refine ⟨?_, ?_, ?_, ?_, ?_, ?_⟩
    · rw [of_lay_ne _ _ (by omega) (by omega) (Or.inr (by omega))]; exact r0
    · rw [of_lay_ne _ _ (by omega) (by omega) (Or.inr (by omega))]; exact r1
    · rw [of_lay_ne _ _ (by omega) (by omega) (Or.inr (by omega))]; exact r2
    · rw [of_lay_ne _ _ (by omega) (by omega) (Or.inr (by omega))]; exact r3
    · rw [of_lay_ne _ _ (by omega) (by omega) (Or.inr (by omega))]; exact r4
    · rw [of_lay_eq]; exact (pk_us).symm
  · refine ⟨?_, ?_, ?_, ?_, ?_, ?_⟩
    · rw [of_lay_ne _ _ (by omega) (by omega) (Or.inl e)]; exact r0
    · rw [of_lay_ne _ _ (by omega) (by omega) (Or.inl e)]; exact r1
    · rw [of_lay_ne _ _ (by omega) (by omega) (Or.inl e)]; exact r2
    · rw [of_lay_ne _ _ (by omega) (by omega) (Or.inl e)]; exact r3
    · rw [of_lay_ne _ _ (by omega) (by omega) (Or.inl e)]; exact r4
    · rw [of_lay_ne _ _ (by omega) (by omega) (Or.inl e)]; exact r5.trans (pk_un (fun z => e z.symm)).symm
theorem Rel.chance {S : St} {g : Rw} (h : Rel S g) (x : Int64) : Rel (wH S x) (h_X7_layChance g x) := by
  obtain ⟨⟨h0, h1, h2, h3, h4, h5⟩, hc8, hr, hg⟩ := h
  have lo : ∀ {i : Nat}, i ≠ 5 → i ≠ 6 → h_X7_layChance g x i = g i := fun a b => lay_3 g x a b
  refine ⟨⟨(lo (by omega) (by omega)).trans h0, (lo (by omega) (by omega)).trans h1, (lo (by omega) (by omega)).trans h2, (lo (by omega) (by omega)).trans h3, (lo (by omega) (by omega)).trans h4, chance_lay g x⟩, fun y hy => (lo (by omega) (by omega)).trans (hc8 y hy), fun d hd => ?_, GapOk.cong (g := g) (fun i _ h8 => lo (by omega) (by omega)) hg⟩
  rw [gm_cong (lo (by omega) (by omega))] at hd
  obtain ⟨r0, r1, r2, r3, r4, r5⟩ := hr d hd
  have o : ∀ w, f_X7_of (h_X7_layChance g x) d w = f_X7_of g d w := fun w => by
    rw [f_X7_of, lo (by omega) (by omega), f_X7_of]
  exact ⟨(o 0).trans r0, (o 1).trans r1, (o 2).trans r2, (o 3).trans r3, (o 4).trans r4, (o 5).trans r5⟩
/-- one number below the cells -/
theorem Rel.num {S S' : St} {g : Rw} (h : Rel S g) {i : Nat} {v : Int32} (hi : 1 ≤ i) (hi4 : i ≤ 4) (hS : sC S' = sC S ∧ sL S' = sL S ∧ sY S' = sY S ∧ sT S' = sT S ∧ sP S' = sP S ∧ sK S' = sK S ∧ sR S' = sR S ∧ sN S' = sN S ∧ sH S' = sH S ∧ sG S' = sG S)
    (h1' : sM S' = if i = 1 then v else sM S) (h2' : sU S' = if i = 2 then v else sU S) (h3' : sO S' = if i = 3 then v else sO S) (h4' : sE S' = if i = 4 then v else sE S) : Rel S' (upd g i v) := by
  obtain ⟨⟨h0, h1, h2, h3, h4, h5⟩, hc8, hr, hg⟩ := h
  obtain ⟨e1, e2, e3, e4, e5, e6, e7, e8, e9, e10⟩ := hS
  have ne : ∀ {k : Nat}, k ≠ i → upd g i v k = g k := fun z => pk_un z
  have at' : ∀ k : Nat, upd g i v k = if i = k then v else g k := fun k => by
    by_cases z : i = k
    · rw [if_pos z, ← z]; exact pk_us
    · rw [if_neg z]; exact ne (fun y => z y.symm)
  refine ⟨⟨?_, ?_, ?_, ?_, ?_, ?_⟩, fun y hy => ?_, fun d hd => ?_, ?_⟩
  · rw [ne (by omega), e8]; exact h0
  · rw [at', h1', h1]
  · rw [at', h2', h2]
  · rw [at', h3', h3]
  · rw [at', h4', h4]
  · rw [chance_cong (ne (by omega)) (ne (by omega)), e9]; exact h5
  · rw [ne (by omega), e1]; exact hc8 y hy
  · rw [gm_cong (ne (by omega))] at hd
    rw [e2, e3, e4, e5, e6, e7, of_upd _ _ (by omega), of_upd _ _ (by omega), of_upd _ _ (by omega), of_upd _ _ (by omega), of_upd _ _ (by omega), of_upd _ _ (by omega)]
    exact hr d hd
  · have hg' : GapOk S (upd g i v) := GapOk.cong (g := g) (fun k h7 h8 => ne (by omega)) hg
    intro k hk
    rw [e10]
    exact hg' k hk
/-- one more car, whose fields stand already -/
theorem Rel.more {S : St} {g : Rw} (h : Rel S g) (hm : g 0 = nI (gm g)) (h40 : gm g < 40) (hf : f_X7_of g (gm g) 0 = sL S (gm g) ∧ f_X7_of g (gm g) 1 = sY S (gm g) ∧ f_X7_of g (gm g) 2 = sT S (gm g) ∧ f_X7_of g (gm g) 3 = sP S (gm g) ∧ f_X7_of g (gm g) 4 = sK S (gm g) ∧ f_X7_of g (gm g) 5 = sR S (gm g)) : Rel (wN S (sN S + 1)) (upd g 0 (g 0 + 1)) := by
  obtain ⟨⟨h0, h1, h2, h3, h4, h5⟩, hc8, hr, hg⟩ := h
  have ne : ∀ {k : Nat}, k ≠ 0 → upd g 0 (g 0 + 1) k = g k := fun z => pk_un z
  have e0 : upd g 0 (g 0 + 1) 0 = nI (gm g + 1) := by
    rw [pk_us, hm, nI_1]
  have eg : gm (upd g 0 (g 0 + 1)) = gm g + 1 := by rw [gm, e0, nI_clamp (by omega)]
  refine ⟨⟨?_, (ne (by omega)).trans h1, (ne (by omega)).trans h2, (ne (by omega)).trans h3, (ne (by omega)).trans h4, (chance_cong (ne (by omega)) (ne (by omega))).trans h5⟩, fun y hy => (ne (by omega)).trans (hc8 y hy), fun d hd => ?_, GapOk.cong (g := g) (fun k h7 h8 => ne (by omega)) hg⟩
  · rw [pk_us]
    show g 0 + 1 = sN S + 1
    rw [h0]
  · rw [eg] at hd
    rw [of_upd _ _ (by omega), of_upd _ _ (by omega), of_upd _ _ (by omega), of_upd _ _ (by omega), of_upd _ _ (by omega), of_upd _ _ (by omega)]
    by_cases e : d = gm g
    · subst e; exact hf
    · exact hr d (by omega)
/-- the place that the two choose -/
theorem place_eq {S : St} {g : Rw} (h : Rel S g) (hi : RI g) {j : Nat} (hj : 1 ≤ j ∧ j ≤ 8) : f_X4_chosenPlace S (nI j) = (h_X7_placeFor g (nI j)).1 := by
  obtain ⟨⟨h0, h1, h2, h3, h4, h5⟩, hc8, hr, hg⟩ := h
  obtain ⟨r, hr4, e3⟩ := hi.2.1
  rw [f_X4_chosenPlace, h_X7_placeFor, ← h2]
  by_cases c2 : g 2 = 2
  · rw [if_pos c2, if_pos c2]
    exact chancePlace_eq hj hr4 e3 h3.symm (by rw [h5, f_X6_nextChance]) hg
  · rw [if_neg c2, if_neg c2]
    by_cases c1 : g 2 = 1
    · rw [if_pos c1]
      exact shortest_eq hj hr4 e3 h3.symm c1 hg
    · rw [if_neg c1]
      exact lowest_eq hj hr4 e3 h3.symm c1 hg
theorem place_st {S : St} {g : Rw} (h : Rel S g) (hi : RI g) {j : Nat} (hj : 1 ≤ j ∧ j ≤ 8) : ((h_X7_placeFor g (nI j)).1 = -1 ∧ (h_X7_placeFor g (nI j)).2 = g) ∨ (¬ (h_X7_placeFor g (nI j)).1 = -1 ∧ Rel (h_X4_useChance S) (h_X7_placeFor g (nI j)).2) := by
  have hS := h
  obtain ⟨⟨h0, h1, h2, h3, h4, h5⟩, hc8, hr, hg⟩ := h
  obtain ⟨r, hr4, e3⟩ := hi.2.1
  rw [h_X7_placeFor, h_X4_useChance, ← h2]
  by_cases c2 : g 2 = 2
  · rw [if_pos c2, if_pos c2]
    rcases byChance_2 hj hr4 e3 with ⟨a, b⟩ | ⟨a, b⟩
    · exact Or.inl ⟨a, b⟩
    · refine Or.inr ⟨a, ?_⟩
      show Rel _ (h_X7_byChance g (nI j)).2
      rw [b, f_X6_nextChance, ← h5]
      exact hS.chance _
  · rw [if_neg c2, if_neg c2]
    by_cases c1 : f_X7_byRule g (nI j) = -1
    · exact Or.inl ⟨c1, rfl⟩
    · exact Or.inr ⟨c1, hS⟩
theorem parks_eq {S : St} {g : Rw} (h : Rel S g) (hi : RI g) {c : Nat} (hc : c < gm g) : (h_X4_tryToPark S (nI c)).1 = (h_X7_parks g c).1 ∧ Rel (h_X4_tryToPark S (nI c)).2 (h_X7_parks g c).2 := by
  have hm := hi.m.2
  obtain ⟨e0, j8, j2⟩ := hi.J hc
  have eL : f_X6_get 40 (sL S) (nI c) = nI (pj g c) := by rw [get_n _ (by omega) (by omega), ← (h.2.2.1 c hc).1, e0]
  have ep := place_eq h hi (j := pj g c) ⟨by omega, j8⟩
  rw [h_X4_tryToPark, h_X7_parks, eL, ep]
  rcases place_st h hi (j := pj g c) ⟨by omega, j8⟩ with ⟨a, b⟩ | ⟨a, b⟩
  · rw [if_pos a, if_pos a, if_pos a, b]
    exact ⟨rfl, h⟩
  · rw [if_neg a, if_neg a, if_neg a]
    refine ⟨rfl, ?_⟩
    rcases place_okE j8 hi.2.1 (g := g) with z | ⟨x, hx, hx8⟩
    · exact absurd z a
    · show Rel _ (h_X7_lay _ c 2 0)
      rw [hx, nI_clamp (by omega)]
      exact ((b.occ (nI c) hx8).qP (by omega) (nI x)).qT (by omega) 0
theorem depart_eq {S : St} {g : Rw} (h : Rel S g) (hi : RI g) {c : Nat} (hc : c < gm g) (hp : f_X7_of g c 2 = 0) (sta : Int32) : (h_X4_depart S (nI c) sta).1 = (h_X7_goes g c sta).1 ∧ Rel (h_X4_depart S (nI c) sta).2 (h_X7_goes g c sta).2 := by
  have hm := hi.m.2
  obtain ⟨e3, e0, hx⟩ := hi.X hc hp
  have eL : f_X6_get 40 (sL S) (nI c) = nI (pj g c) := by rw [get_n _ (by omega) (by omega), ← (h.2.2.1 c hc).1, e0]
  have eP : f_X6_get 40 (sP S) (nI c) = nI (px g c) := by rw [get_n _ (by omega) (by omega), ← (h.2.2.1 c hc).2.2.2.1, e3]
  have hk : ¬ f_X4_isParked S (nI c) = 0 := by
    rw [parked_eq h hi, f_X7_isParked, isCar_n hi hc, if_neg (by decide), nI_clamp (by omega), if_pos hp]
    decide
  rw [h_X4_depart, if_neg hk, eL, eP, h_X7_goes]
  exact ⟨rfl, ((h.occ (-1) hx).qP (by omega) (-1)).qT (by omega) sta⟩
theorem come_eq {S : St} {g : Rw} (h : Rel S g) (hi : RI g) (h40 : gm g < 40) {len stay : Int32} (hl : ∃ j, 2 ≤ j ∧ j ≤ 8 ∧ len = nI j) (hlen : ¬ f_X6_isLength len = 0) (hst : ¬ f_X6_isStay stay = 0) : (h_X4_arrive S len stay).1 = (h_X7_comeOn g len stay).1 ∧ Rel (h_X4_arrive S len stay).2 (h_X7_comeOn g len stay).2 := by
  obtain ⟨e0, hm⟩ := hi.m
  have eN : sN S = nI (gm g) := h.1.1.symm.trans e0
  have hall : f_X4_allCame S = 0 := by
    rw [f_X4_allCame, eN, if_pos (show nI (gm g) < 40 from (nI_ltI (b := 40) (by omega) (by omega)).mpr h40)]
  have hn := RI_new hi h40 hl (stay := stay)
  have c6 : ∀ k : Nat, k < 87 → cw6 g (gm g) len stay k = g k := fun k hk => cw6_lo _ _ _ _ hk
  have q : Rel (pR (pK (pP (pT (pY (pL S (nI (gm g)) len) (nI (gm g)) stay) (nI (gm g)) 1) (nI (gm g)) (-1)) (nI (gm g)) 0) (nI (gm g)) 0) (cw6 g (gm g) len stay) := (((((h.qL h40 len).qY h40 stay).qT h40 1).qP h40 (-1)).qK h40 0).qR h40 0
  have eg : gm (cw6 g (gm g) len stay) = gm g := gm_cong (c6 0 (by omega))
  have q2 := q.more (by rw [eg, c6 0 (by omega)]; exact e0) (by rw [eg]; exact h40) (by
    rw [eg]
    simp only [pR, pK, pP, pT, pY, pL, put_n _ _ h40 (show 40 < 2 ^ 31 by omega)]
    refine ⟨?_, ?_, ?_, ?_, ?_, ?_⟩
    · rw [cw6_0]; exact pk_us.symm
    · unfold cw6
      rw [of_lay_ne _ _ (by omega) (by omega) (Or.inr (by omega)), of_lay_ne _ _ (by omega) (by omega) (Or.inr (by omega)), of_lay_ne _ _ (by omega) (by omega) (Or.inr (by omega)), of_lay_ne _ _ (by omega) (by omega) (Or.inr (by omega)), of_lay_eq]; exact pk_us.symm
    · unfold cw6
      rw [of_lay_ne _ _ (by omega) (by omega) (Or.inr (by omega)), of_lay_ne _ _ (by omega) (by omega) (Or.inr (by omega)), of_lay_ne _ _ (by omega) (by omega) (Or.inr (by omega)), of_lay_eq]; exact pk_us.symm
    · unfold cw6
      rw [of_lay_ne _ _ (by omega) (by omega) (Or.inr (by omega)), of_lay_ne _ _ (by omega) (by omega) (Or.inr (by omega)), of_lay_eq]; exact pk_us.symm
    · unfold cw6
      rw [of_lay_ne _ _ (by omega) (by omega) (Or.inr (by omega)), of_lay_eq]; exact pk_us.symm
    · unfold cw6
      rw [of_lay_eq]; exact pk_us.symm)
  have eT : sN (pR (pK (pP (pT (pY (pL S (nI (gm g)) len) (nI (gm g)) stay) (nI (gm g)) 1) (nI (gm g)) (-1)) (nI (gm g)) 0) (nI (gm g)) 0) = sN S := rfl
  rw [eT, eN] at q2
  have p := parks_eq q2 hn.1 (c := gm g) (by rw [hn.2]; omega)
  rw [h_X4_arrive, if_neg hlen, if_neg hst, if_pos hall, h_X7_comeOn, eN]
  exact ⟨rfl, p.2⟩
