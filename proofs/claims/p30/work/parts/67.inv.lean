/-! what a row of the reference always holds besides RI: stays and minutes, and cells that fit the parked cars -/
/-- what a car's numbers are: state, place of one that isn't parked, minutes parked, minutes round -/
def RKd (g : Rw) (c : Nat) : Prop := (∃ s, s < 5 ∧ f_X7_of g c 2 = nI s) ∧ (f_X7_of g c 2 ≠ 0 → f_X7_of g c 3 = -1) ∧ (∃ t u, u ≤ t ∧ t ≤ 99 ∧ f_X7_of g c 1 = nI t ∧ f_X7_of g c 4 = nI u) ∧ (∃ r, r ≤ 30 ∧ f_X7_of g c 5 = nI r ∧ (f_X7_of g c 2 = 1 → r < 30) ∧ (f_X7_of g c 2 = 3 → 1 ≤ r)) ∧ (f_X7_of g c 2 = 3 → f_X7_of g c 4 = 0)
def RKc (g : Rw) (c : Nat) : Prop := (∃ t, 1 ≤ t ∧ t ≤ 99 ∧ f_X7_of g c 1 = nI t ∧ (f_X7_of g c 2 = 0 → ∃ u, u < t ∧ f_X7_of g c 4 = nI u)) ∧ (f_X7_of g c 2 = 1 → f_X7_of g c 4 = 0) ∧ RKd g c
abbrev inR (g : Rw) (c y : Nat) : Prop := px g c ≤ y ∧ y < px g c + pj g c
def CellOk (g : Rw) (y : Nat) : Prop := g (7 + y) = -1 ∨ g (7 + y) = 100 ∨ ∃ c, c < gm g ∧ f_X7_of g c 2 = 0 ∧ g (7 + y) = nI c ∧ inR g c y
def NU (g : Rw) : Prop := (∃ a, a ≤ 2 ∧ g 2 = nI a) ∧ ∃ b, (1 ≤ b ∧ b ≤ 30) ∧ g 4 = nI b
theorem NU.c {g g' : Rw} (h : NU g) (e2 : g' 2 = g 2) (e4 : g' 4 = g 4) : NU g' := by
  unfold NU
  rw [e2, e4]
  exact h
def Inv (g : Rw) : Prop :=
  (RI g) ∧
  (NU g) ∧
  (∀ c, c < gm g → RKc g c) ∧
  (∀ y, y < 80 → CellOk g y) ∧
  (∀ c, c < gm g → f_X7_of g c 2 = 0 → ∀ y, inR g c y → g (7 + y) = nI c)
theorem Inv.ri {g : Rw} (h : Inv g) : RI g := h.1
theorem Inv.nu {g : Rw} (h : Inv g) : NU g := h.2.1
theorem Inv.rk {g : Rw} (h : Inv g) : ∀ c, c < gm g → RKc g c := h.2.2.1
theorem Inv.cc {g : Rw} (h : Inv g) : ∀ y, y < 80 → CellOk g y := h.2.2.2.1
theorem Inv.pc {g : Rw} (h : Inv g) : ∀ c, c < gm g → f_X7_of g c 2 = 0 → ∀ y, inR g c y → g (7 + y) = nI c := h.2.2.2.2
theorem inR_c {g g' : Rw} {c y : Nat} (e0 : f_X7_of g' c 0 = f_X7_of g c 0) (e3 : f_X7_of g' c 3 = f_X7_of g c 3) : inR g' c y ↔ inR g c y := by
  unfold inR px pj
  rw [e0, e3]
theorem RKc_c {g g' : Rw} {c : Nat} (h : RKc g c) (e1 : f_X7_of g' c 1 = f_X7_of g c 1) (e2 : f_X7_of g' c 2 = f_X7_of g c 2) (e4 : f_X7_of g' c 4 = f_X7_of g c 4) (e3 : f_X7_of g' c 3 = f_X7_of g c 3) (e5 : f_X7_of g' c 5 = f_X7_of g c 5) : RKc g' c := by
  unfold RKc RKd
  rw [e1, e2, e3, e4, e5]
  exact h
theorem Inv.same {g g' : Rw} (h : Inv g) (h0 : g' 0 = g 0) (ri : RI g') (rk : ∀ c, c < gm g → RKc g' c) (e : ∀ c, c < gm g → f_X7_of g' c 0 = f_X7_of g c 0 ∧ f_X7_of g' c 2 = f_X7_of g c 2 ∧ f_X7_of g' c 3 = f_X7_of g c 3) (cl : ∀ y, y < 80 → g' (7 + y) = g (7 + y)) (nu : NU g') : Inv g' := by
  have eg : gm g' = gm g := gm_cong h0
  refine ⟨ri, nu, fun c hc => rk c (by omega), fun y hy => ?_, fun c hc hp y hy => ?_⟩
  · unfold CellOk
    rw [cl y hy]
    rcases h.cc y hy with z | z | ⟨c, hc, hp, hv, hr⟩
    · exact Or.inl z
    · exact Or.inr (Or.inl z)
    · obtain ⟨e0, e2, e3⟩ := e c hc
      exact Or.inr (Or.inr ⟨c, by omega, by rw [e2]; exact hp, hv, (inR_c e0 e3).mpr hr⟩)
  · rw [eg] at hc
    obtain ⟨e0, e2, e3⟩ := e c hc
    rw [e2] at hp
    have hr := (inR_c e0 e3).mp hy
    have := h.ri.X hc hp
    rw [cl y (by have := hr.2; omega)]
    exact h.pc c hc hp y hr
/-- one car c and the cells change -/
theorem Inv.one {g g' : Rw} (h : Inv g) (c : Nat) (h0 : g' 0 = g 0) (ri : RI g') (ho : ∀ d w, d ≠ c → w < 6 → f_X7_of g' d w = f_X7_of g d w) (rk : c < gm g → RKc g' c)
    (h1 : ∀ y, y < 80 → (g' (7 + y) = g (7 + y) ∧ (c < gm g → f_X7_of g c 2 = 0 → ¬ inR g c y)) ∨ g' (7 + y) = -1 ∨ g' (7 + y) = 100 ∨ (c < gm g ∧ f_X7_of g' c 2 = 0 ∧ g' (7 + y) = nI c ∧ inR g' c y))
    (h2 : ∀ d, d ≠ c → d < gm g → f_X7_of g d 2 = 0 → ∀ y, inR g d y → g' (7 + y) = g (7 + y)) (h3 : c < gm g → f_X7_of g' c 2 = 0 → ∀ y, inR g' c y → g' (7 + y) = nI c) (n2 : g' 2 = g 2) (n4 : g' 4 = g 4) : Inv g' := by
  have eg : gm g' = gm g := gm_cong h0
  refine ⟨ri, h.nu.c n2 n4, fun d hd => ?_, fun y hy => ?_, fun d hd hp y hy => ?_⟩
  · rw [eg] at hd
    by_cases e : d = c
    · subst e; exact rk hd
    · exact RKc_c (h.rk d hd) (ho d 1 e (by omega)) (ho d 2 e (by omega)) (ho d 4 e (by omega)) (ho d 3 e (by omega)) (ho d 5 e (by omega))
  · rcases h1 y hy with ⟨e, hn⟩ | z | z | ⟨hc, hp, hv, hr⟩
    · unfold CellOk
      rw [e]
      rcases h.cc y hy with z | z | ⟨d, hd, hp, hv, hr⟩
      · exact Or.inl z
      · exact Or.inr (Or.inl z)
      · have hdc : d ≠ c := fun e => by
          subst e
          exact hn hd hp hr
        exact Or.inr (Or.inr ⟨d, by omega, by rw [ho d 2 hdc (by omega)]; exact hp, hv, (inR_c (ho d 0 hdc (by omega)) (ho d 3 hdc (by omega))).mpr hr⟩)
    · exact Or.inl z
    · exact Or.inr (Or.inl z)
    · exact Or.inr (Or.inr ⟨c, by omega, hp, hv, hr⟩)
  · rw [eg] at hd
    by_cases e : d = c
    · subst e; exact h3 hd hp y hy
    · rw [ho d 2 e (by omega)] at hp
      have hr := (inR_c (ho d 0 e (by omega)) (ho d 3 e (by omega))).mp hy
      rw [h2 d e hd hp y hr]
      exact h.pc d hd hp y hr
theorem nI_inj {a b : Nat} (ha : a < 2 ^ 31) (hb : b < 2 ^ 31) (h : nI a = nI b) : a = b := by
  have := congrArg Int32.toNatClampNeg h
  rwa [nI_clamp ha, nI_clamp hb] at this
theorem nI_m1 {a : Nat} (ha : a < 2 ^ 31) : ¬ nI a = -1 := fun z => nI_pos ha (by rw [z]; decide)
theorem Inv.apart {g : Rw} (h : Inv g) {c d y : Nat} (hc : c < gm g) (hp : f_X7_of g c 2 = 0) (hd : d < gm g) (hq : f_X7_of g d 2 = 0) (hr : inR g c y) (hs : inR g d y) : c = d := by
  have := h.ri.m.2
  exact nI_inj (by omega) (by omega) ((h.pc c hc hp y hr).symm.trans (h.pc d hd hq y hs))
/-- a car parks on free cells -/
theorem Inv.park {g : Rw} (h : Inv g) {c x : Nat} (hc : c < gm g) (hs : f_X7_of g c 2 = 1) (hx : x + pj g c ≤ 80) (hf : ∀ i, x ≤ i → i < x + pj g c → g (7 + i) = -1) (ri : RI (h_X7_lay (h_X7_lay (h_X7_fill g x (pj g c) (nI c)) c 3 (nI x)) c 2 0)) : Inv (h_X7_lay (h_X7_lay (h_X7_fill g x (pj g c) (nI c)) c 3 (nI x)) c 2 0) := by
  have hm := h.ri.m.2
  have cl : ∀ y, y < 80 → h_X7_lay (h_X7_lay (h_X7_fill g x (pj g c) (nI c)) c 3 (nI x)) c 2 0 (7 + y) = if x ≤ y ∧ y < x + pj g c then nI c else g (7 + y) := fun y hy => by
    rw [lay_lo _ _ (by omega), lay_lo _ _ (by omega), fill_at g _ hx]
    by_cases z : x ≤ y ∧ y < x + pj g c
    · rw [if_pos z, if_pos (by omega)]
    · rw [if_neg z, if_neg (by omega)]
  have o2 : f_X7_of (h_X7_lay (h_X7_lay (h_X7_fill g x (pj g c) (nI c)) c 3 (nI x)) c 2 0) c 2 = 0 := of_lay_eq ..
  have o3 : f_X7_of (h_X7_lay (h_X7_lay (h_X7_fill g x (pj g c) (nI c)) c 3 (nI x)) c 2 0) c 3 = nI x := by rw [of_lay_ne _ _ (by omega) (by omega) (Or.inr (by omega)), of_lay_eq]
  have oo : ∀ d w, w < 6 → (d ≠ c ∨ (w ≠ 2 ∧ w ≠ 3)) → f_X7_of (h_X7_lay (h_X7_lay (h_X7_fill g x (pj g c) (nI c)) c 3 (nI x)) c 2 0) d w = f_X7_of g d w := fun d w hw z => by
    rw [of_lay_ne _ _ (by omega) hw (by omega), of_lay_ne _ _ (by omega) hw (by omega), of_fill g _ hx]
  have ir : ∀ y, inR (h_X7_lay (h_X7_lay (h_X7_fill g x (pj g c) (nI c)) c 3 (nI x)) c 2 0) c y ↔ x ≤ y ∧ y < x + pj g c := fun y => by
    unfold inR px
    rw [o3, pj, oo c 0 (by omega) (Or.inr ⟨by omega, by omega⟩), nI_clamp (by omega), pj]
  refine h.one c ?_ ri (fun d w hd hw => oo d w hw (Or.inl hd)) (fun _ => ?_) (fun y hy => ?_) (fun d hd hdm hp y hr => ?_) (fun _ _ y hr => ?_) (by rw [lay_lo _ _ (by omega), lay_lo _ _ (by omega), fill_lo _ _ _ _ (by omega)]) (by rw [lay_lo _ _ (by omega), lay_lo _ _ (by omega), fill_lo _ _ _ _ (by omega)])
  · rw [lay_lo _ _ (by omega), lay_lo _ _ (by omega), fill_lo _ _ _ _ (by omega)]
  · obtain ⟨⟨t, t1, t2, e1, -⟩, e4, -, -, eu, ⟨r, r30, er, -, -⟩, -⟩ := h.rk c hc
    have q1 := oo c 1 (by omega) (Or.inr ⟨by omega, by omega⟩)
    have q4 := oo c 4 (by omega) (Or.inr ⟨by omega, by omega⟩)
    have q5 := oo c 5 (by omega) (Or.inr ⟨by omega, by omega⟩)
    refine ⟨⟨t, t1, t2, by rw [q1]; exact e1, fun _ => ⟨0, by omega, by rw [q4, e4 hs]; rfl⟩⟩, fun z => ?_, ⟨0, by omega, o2⟩, fun z => absurd o2 z, by rw [q1, q4]; exact eu, ⟨r, r30, by rw [q5]; exact er, fun z => ?_, fun z => ?_⟩, fun z => ?_⟩
    all_goals rw [o2] at z; exact absurd z (by decide)
  · rw [cl y hy]
    by_cases z : x ≤ y ∧ y < x + pj g c
    · rw [if_pos z]
      exact Or.inr (Or.inr (Or.inr ⟨hc, o2, rfl, (ir y).mpr z⟩))
    · rw [if_neg z]
      exact Or.inl ⟨rfl, fun _ hp => by rw [hs] at hp; exact absurd hp (by decide)⟩
  · have hd8 := h.ri.X hdm hp
    rw [cl y (by have := hr.2; omega)]
    by_cases z : x ≤ y ∧ y < x + pj g c
    · have e1 := hf y z.1 z.2
      rw [h.pc d hdm hp y hr] at e1
      exact absurd e1 (nI_m1 (by omega))
    · rw [if_neg z]
  · have hz := (ir y).mp hr
    rw [cl y (by omega), if_pos hz]
/-- a parked car goes; its own minutes may stand anywhere -/
theorem Inv.goes {g g0 : Rw} (h : Inv g0) {c : Nat} {sta v : Int32} (hg : g = g0 ∨ g = h_X7_lay g0 c 4 v) (hc : c < gm g0) (hp : f_X7_of g0 c 2 = 0) (h0 : sta ≠ 0) (h1 : sta ≠ 1) (hv : ∃ t u, u ≤ t ∧ t ≤ 99 ∧ f_X7_of g c 1 = nI t ∧ f_X7_of g c 4 = nI u) (h24 : sta = 2 ∨ sta = 4) : Inv (h_X7_goes g c sta).2 := by
  have hm := h.ri.m.2
  obtain ⟨ex, ej, hx⟩ := h.ri.X hc hp
  have ho : ∀ d w, w < 6 → w ≠ 4 → f_X7_of g d w = f_X7_of g0 d w := fun d w hw h4 => by
    rcases hg with rfl | rfl
    · rfl
    · exact of_lay_ne _ _ (by omega) hw (Or.inr (by omega))
  have ho4 : ∀ d, d ≠ c → f_X7_of g d 4 = f_X7_of g0 d 4 := fun d hd => by
    rcases hg with rfl | rfl
    · rfl
    · exact of_lay_ne _ _ (by omega) (by omega) (Or.inl (fun e => hd e.symm))
  have hlo : ∀ i, i < 87 → g i = g0 i := fun i hi => by
    rcases hg with rfl | rfl
    · rfl
    · exact lay_lo _ _ hi
  have epx : px g c = px g0 c := by rw [px, ho c 3 (by omega) (by omega), px]
  have epj : pj g c = pj g0 c := by rw [pj, ho c 0 (by omega) (by omega), pj]
  rw [h_X7_goes, epx, epj]
  show Inv (h_X7_lay (h_X7_lay (h_X7_fill g (px g0 c) (pj g0 c) (-1)) c 3 (-1)) c 2 sta)
  have cl : ∀ y, y < 80 → h_X7_lay (h_X7_lay (h_X7_fill g (px g0 c) (pj g0 c) (-1)) c 3 (-1)) c 2 sta (7 + y) = if inR g0 c y then -1 else g0 (7 + y) := fun y hy => by
    rw [lay_lo _ _ (by omega), lay_lo _ _ (by omega), fill_at g _ hx]
    by_cases z : inR g0 c y
    · rw [if_pos z, if_pos (by have := z.1; have := z.2; omega)]
    · rw [if_neg z, if_neg (fun w => z ⟨by omega, by omega⟩), hlo _ (by omega)]
  have o2 : f_X7_of (h_X7_lay (h_X7_lay (h_X7_fill g (px g0 c) (pj g0 c) (-1)) c 3 (-1)) c 2 sta) c 2 = sta := of_lay_eq ..
  have oo : ∀ d w, w < 6 → (d ≠ c ∨ (w ≠ 2 ∧ w ≠ 3)) → f_X7_of (h_X7_lay (h_X7_lay (h_X7_fill g (px g0 c) (pj g0 c) (-1)) c 3 (-1)) c 2 sta) d w = f_X7_of g d w := fun d w hw z => by
    rw [of_lay_ne _ _ (by omega) hw (by omega), of_lay_ne _ _ (by omega) hw (by omega), of_fill g _ hx]
  have hri : RI g := by
    rcases hg with rfl | rfl
    · exact h.ri
    · exact RI_lay h.ri (by omega) (by omega) (by omega) (by omega)
  refine h.one c ?_ (RI_two (RI_fill hri hx) (fun z => absurd z h0)) (fun d w hd hw => ?_) (fun _ => ?_) (fun y hy => ?_) (fun d hd hdm hq y hr => ?_) (fun _ z => ?_) (by rw [lay_lo _ _ (by omega), lay_lo _ _ (by omega), fill_lo _ _ _ _ (by omega), hlo _ (by omega)]) (by rw [lay_lo _ _ (by omega), lay_lo _ _ (by omega), fill_lo _ _ _ _ (by omega), hlo _ (by omega)])
  · rw [lay_lo _ _ (by omega), lay_lo _ _ (by omega), fill_lo _ _ _ _ (by omega), hlo _ (by omega)]
  · rw [oo d w hw (Or.inl hd)]
    by_cases h4 : w = 4
    · rw [h4]; exact ho4 d hd
    · exact ho d w hw h4
  · obtain ⟨⟨t, t1, t2, e1, -⟩, -, -, -, -, ⟨r, r30, er, -, -⟩, -⟩ := h.rk c hc
    have q1 := oo c 1 (by omega) (Or.inr ⟨by omega, by omega⟩)
    have q4 := oo c 4 (by omega) (Or.inr ⟨by omega, by omega⟩)
    have q5 := (oo c 5 (by omega) (Or.inr ⟨by omega, by omega⟩)).trans (ho c 5 (by omega) (by omega))
    have n3 : sta ≠ 3 := by rcases h24 with rfl | rfl <;> decide
    have hs5 : ∃ s, s < 5 ∧ sta = nI s := h24.elim (fun z => ⟨2, by omega, z⟩) (fun z => ⟨4, by omega, z⟩)
    refine ⟨⟨t, t1, t2, by rw [q1, ho c 1 (by omega) (by omega)]; exact e1, fun z => ?_⟩, fun z => ?_, by rw [o2]; exact hs5, fun _ => ?_, by rw [q1, q4]; exact hv, ⟨r, r30, q5.trans er, fun z => ?_, fun z => ?_⟩, fun z => ?_⟩
    · rw [o2] at z; exact absurd z h0
    · rw [o2] at z; exact absurd z h1
    · rw [of_lay_ne _ _ (by omega) (by omega) (Or.inr (by omega)), of_lay_eq]
    · rw [o2] at z; exact absurd z h1
    · rw [o2] at z; exact absurd z n3
    · rw [o2] at z; exact absurd z n3
  · rw [cl y hy]
    by_cases z : inR g0 c y
    · rw [if_pos z]; exact Or.inr (Or.inl rfl)
    · rw [if_neg z]; exact Or.inl ⟨rfl, fun _ _ => z⟩
  · have hd8 := h.ri.X hdm hq
    rw [cl y (by have := hr.2; omega), if_neg (fun z => hd (h.apart hc hp hdm hq z hr).symm)]
  · rw [o2] at z; exact absurd z h0
theorem Inv.nums {g g' : Rw} (h : Inv g) (ri : RI g') (h0 : g' 0 = g 0) (e : ∀ i, 7 ≤ i → g' i = g i) (nu : NU g') : Inv g' :=
  h.same h0 ri (fun c hc => RKc_c (h.rk c hc) (e _ (by omega)) (e _ (by omega)) (e _ (by omega)) (e _ (by omega)) (e _ (by omega))) (fun c _ => ⟨e _ (by omega), e _ (by omega), e _ (by omega)⟩) (fun y _ => e _ (by omega)) nu
theorem Inv.parks {g : Rw} (h : Inv g) {c : Nat} (hc : c < gm g) (hs : f_X7_of g c 2 = 1) : Inv (h_X7_parks g c).2 := by
  have ri := RI_parks h.ri hc
  obtain ⟨e0, j8, j2⟩ := h.ri.J hc
  have hP : Inv (h_X7_placeFor g (nI (pj g c))).2 := h.nums (RI_place h.ri _) (place_g _ _ (by omega) (by omega)) (fun i hi => place_g _ _ (by omega) (by omega)) (h.nu.c (place_g _ _ (by omega) (by omega)) (place_g _ _ (by omega) (by omega)))
  rw [h_X7_parks] at ri ⊢
  by_cases a : (h_X7_placeFor g (nI (pj g c))).1 = -1
  · rw [if_pos a, if_pos a]; exact hP
  · rw [if_neg a, if_neg a] at ri ⊢
    have eg : gm (h_X7_placeFor g (nI (pj g c))).2 = gm g := gm_cong (place_g _ _ (by omega) (by omega))
    have ej : pj (h_X7_placeFor g (nI (pj g c))).2 c = pj g c := by rw [pj, of_place, pj]
    rcases place_fr (g := g) j8 h.ri.2.1 with z | ⟨x, hx, hx8, hf⟩
    · exact absurd z a
    · rw [hx, nI_clamp (by omega)] at ri ⊢
      have q := hP.park (c := c) (x := x) (by omega) (by rw [of_place]; exact hs) (by rw [ej]; exact hx8) (fun i h1 h2 => by rw [ej] at h2; rw [place_g _ _ (by omega) (by omega)]; exact hf i h1 h2)
      rw [ej] at q
      exact q ri
