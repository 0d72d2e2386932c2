theorem upd_self {f : Rw} {i : Nat} {v : Int32} (h : f i = v) : upd f i v = f := by
  funext k
  by_cases e : k = i
  · subst e; rw [pk_us, h]
  · rw [pk_un e]
theorem lay_self {g : Rw} {c w : Nat} {v : Int32} (h : f_X7_of g c w = v) : h_X7_lay g c w v = g := upd_self h
theorem fill_1 (g : Rw) {x : Nat} (hx : x < 80) (v : Int32) : h_X7_fill g x 1 v = upd g (7 + x) v := by
  funext i
  rw [fill_at g v (by omega)]
  by_cases e : i = 7 + x
  · subst e; rw [pk_us, if_pos (by omega)]
  · rw [pk_un e, if_neg (by omega)]
theorem Inv.cell {g : Rw} (h : Inv g) {x : Nat} (hx : x < 80) {v : Int32} (hv : v = -1 ∨ v = 100) (ho : g (7 + x) = -1 ∨ g (7 + x) = 100) : Inv (upd g (7 + x) v) := by
  have hm := h.ri.m.2
  have ob : ∀ d w, f_X7_of (upd g (7 + x) v) d w = f_X7_of g d w := fun d w => of_upd _ _ (by omega)
  refine h.one 1000 (pk_un (by omega)) (RI_cell h.ri hx v) (fun d w _ _ => ob d w) (fun z => by omega) (fun y hy => ?_) (fun d hd hdm hq y hr => ?_) (fun z => by omega) (pk_un (by omega)) (pk_un (by omega))
  · by_cases e : y = x
    · subst e
      rw [pk_us]
      rcases hv with rfl | rfl
      · exact Or.inr (Or.inl rfl)
      · exact Or.inr (Or.inr (Or.inl rfl))
    · rw [pk_un (by omega)]
      exact Or.inl ⟨rfl, fun z => by omega⟩
  · refine pk_un (fun e => ?_)
    have e1 := h.pc d hdm hq y hr
    rw [e] at e1
    rcases ho with z | z
    · rw [z] at e1; exact nI_m1 (by omega) e1.symm
    · rw [z] at e1
      have := nI_inj (a := 100) (b := d) (by omega) (by omega) e1
      omega
theorem hyd_all {S : St} {g : Rw} (h : Rel S g) (hi : Inv g) {x : Nat} {on : Int32} (hc : ¬ f_X7_canHydrant g (nI x) on = 0) (hx : x < 80) : (h_X4_putHydrant S (nI x) on).1 = (h_X7_hydrantOn g x on).1 ∧ Rel (h_X4_putHydrant S (nI x) on).2 (h_X7_hydrantOn g x on).2 ∧ Inv (h_X7_hydrantOn g x on).2 := by
  have ha : ¬ f_X4_allowsHydrant S (nI x) on = 0 := by rw [hyd_eq h]; exact hc
  have ec : f_X6_get 80 (sC S) (nI x) = g (7 + x) := by rw [get_n _ hx (by omega), h.2.1 x hx]
  have occ : ∀ v, Rel (h_X4_occupy S (nI x) 1 v) (upd g (7 + x) v) := fun v => by
    rw [← fill_1 g hx]
    exact h.occ (a := x) (j := 1) v (by omega)
  rw [h_X4_putHydrant, if_neg ha, h_X7_hydrantOn, ec]
  by_cases c0 : on = 0
  · rw [if_pos c0]
    by_cases c1 : g (7 + x) = 100
    · rw [if_pos c1, if_pos c1, if_pos c0, if_neg (by decide)]
      exact ⟨with_eq (occ _) _, occ _, hi.cell hx (Or.inl rfl) (Or.inr c1)⟩
    · rw [if_neg c1, if_neg c1, if_pos c0, if_pos rfl, upd_self rfl]
      exact ⟨with_eq h _, h, hi⟩
  · rw [if_neg c0]
    have ho : g (7 + x) = -1 ∨ g (7 + x) = 100 := by
      rw [f_X7_canHydrant] at hc
      by_cases d0 : f_X7_isCell (nI x) = 0
      · rw [if_pos d0] at hc; exact absurd rfl hc
      · rw [if_neg d0, if_neg c0, show (7 : Int32) + nI x = nI (7 + x) from nI_add 7 x, nI_clamp (by omega)] at hc
        by_cases d1 : g (7 + x) = -1
        · exact Or.inl d1
        · rw [if_neg d1] at hc
          by_cases d2 : g (7 + x) = 100
          · exact Or.inr d2
          · rw [if_neg d2] at hc; exact absurd rfl hc
    have q : (f_X4_cellsWith (h_X4_occupy S (nI x) 1 100) 100 = f_X7_cellsWith (upd g (7 + x) 100) 100) ∧ Rel (h_X4_occupy S (nI x) 1 100) (upd g (7 + x) 100) ∧ Inv (upd g (7 + x) 100) := ⟨with_eq (occ _) _, occ _, hi.cell hx (Or.inr rfl) ho⟩
    by_cases c1 : g (7 + x) = 100
    · rw [if_pos c1, if_neg c0]; exact q
    · rw [if_neg c1, if_neg c0]; exact q
theorem set_val {w a : Nat} {v : Int32} (hs : ¬ f_X7_isSetting (nI w) v = 0) (ha : (w = 0 ∧ a = 2) ∨ (w = 2 ∧ a = 30)) : ∃ b, b ≤ a ∧ v = nI b ∧ (w = 2 → 1 ≤ b) := by
  rw [← setting_eq, f_X6_isSettingValue] at hs
  rcases ha with ⟨rfl, rfl⟩ | ⟨rfl, rfl⟩
  · rw [if_pos (show nI 0 = 0 by decide)] at hs
    by_cases c1 : v < 0
    · rw [if_pos c1] at hs; exact absurd rfl hs
    · rw [if_neg c1] at hs
      obtain ⟨b, hb, rfl⟩ := nI_of c1
      refine ⟨b, ?_, rfl, fun z => absurd z (by omega)⟩
      rcases Nat.lt_or_ge 2 b with z | z
      · rw [if_pos (show (2 : Int32) < nI b from (nI_ltI (a := 2) (by omega) hb).mpr z)] at hs
        exact absurd rfl hs
      · exact z
  · rw [if_neg (by decide), if_neg (by decide), if_pos (show nI 2 = 2 by decide)] at hs
    by_cases c1 : v < 1
    · rw [if_pos c1] at hs; exact absurd rfl hs
    · rw [if_neg c1] at hs
      have c0 : ¬ v < 0 := fun z => by
        rw [Int32.lt_iff_toInt_lt, show (0 : Int32).toInt = 0 by decide] at z
        rw [Int32.lt_iff_toInt_lt, show (1 : Int32).toInt = 1 by decide] at c1
        omega
      obtain ⟨b, hb, rfl⟩ := nI_of c0
      refine ⟨b, ?_, rfl, fun _ => ?_⟩
      rotate_left
      · rcases Nat.eq_zero_or_pos b with z | z
        · exact absurd (by rw [z]; decide) c1
        · exact z
      rcases Nat.lt_or_ge 30 b with z | z
      · rw [if_pos (show (30 : Int32) < nI b from (nI_ltI (a := 30) (by omega) hb).mpr z)] at hs
        exact absurd rfl hs
      · exact z
theorem change_all {S : St} {g : Rw} (h : Rel S g) (hi : Inv g) {w : Nat} {v : Int32} (hw : w < 3) (hs : ¬ f_X7_isSetting (nI w) v = 0) : (h_X4_changeSetting S (nI w) v).1 = (h_X7_change g w v).1 ∧ Rel (h_X4_changeSetting S (nI w) v).2 (h_X7_change g w v).2 ∧ Inv (h_X7_change g w v).2 := by
  have nu : NU (upd g (2 + w) v) := by
    obtain ⟨a, b⟩ := hi.nu
    have hw3 : w = 0 ∨ w = 1 ∨ w = 2 := by omega
    rcases hw3 with rfl | rfl | rfl
    · obtain ⟨v2, v3, v4, -⟩ := set_val (a := 2) hs (by decide)
      exact ⟨by rw [pk_us]; exact ⟨v2, v3, v4⟩, by rw [pk_un (by omega)]; exact b⟩
    · exact ⟨by rw [pk_un (by omega)]; exact a, by rw [pk_un (by omega)]; exact b⟩
    · obtain ⟨v2, v3, v4, v5⟩ := set_val (a := 30) hs (by decide)
      exact ⟨by rw [pk_un (by omega)]; exact a, by rw [pk_us]; exact ⟨v2, ⟨v5 rfl, v3⟩, v4⟩⟩
  have inv : Inv (upd g (2 + w) v) := hi.nums (RI_cst hi.ri (by omega) hs) (pk_un (by omega)) (fun i hi => pk_un (by omega)) nu
  rw [h_X4_changeSetting, setting_eq, if_neg hs, h_X7_change]
  have hw3 : w = 0 ∨ w = 1 ∨ w = 2 := by omega
  rcases hw3 with rfl | rfl | rfl
  · exact ⟨h.1.2.2.1.symm, h.num (i := 2) (by omega) (by omega) ⟨rfl, rfl, rfl, rfl, rfl, rfl, rfl, rfl, rfl, rfl⟩ rfl rfl rfl rfl, inv⟩
  · exact ⟨h.1.2.2.2.1.symm, h.num (i := 3) (by omega) (by omega) ⟨rfl, rfl, rfl, rfl, rfl, rfl, rfl, rfl, rfl, rfl⟩ rfl rfl rfl rfl, inv⟩
  · exact ⟨h.1.2.2.2.2.1.symm, h.num (i := 4) (by omega) (by omega) ⟨rfl, rfl, rfl, rfl, rfl, rfl, rfl, rfl, rfl, rfl⟩ rfl rfl rfl rfl, inv⟩
/-! moving -/
theorem rClear_0 (g : Rw) (c : Int32) (to : Nat) : ∀ (n k : Nat), lp_rClear g c to n 0 k = 0 := by
  intro n
  cases n with
  | zero => intro k; rfl
  | succ n =>
    intro k
    rw [lp_rClear]
    by_cases c1 : nI to ≤ nI k
    · rw [if_pos c1]
    · rw [if_neg c1, if_pos rfl]
theorem clear_eq {S : St} {g : Rw} (h : Rel S g) (c : Int32) {to : Nat} (ht : to ≤ 80) : ∀ (n n' k : Nat), k ≤ to → to < k + n → to < k + n' → lp_clear S c n (nI to) (nI k) = lp_rClear g c to n' 1 k := by
  intro n
  induction n with
  | zero => intro n' k h1 h2; omega
  | succ n ih =>
    intro n' k h1 h2 h3
    obtain ⟨m, rfl⟩ : ∃ m, n' = m + 1 := ⟨n' - 1, by omega⟩
    rw [lp_clear, lp_rClear]
    by_cases c1 : nI to ≤ nI k
    · rw [if_pos c1, if_pos c1]
    · rw [if_neg c1, if_neg c1, if_neg (show ¬ (1 : Int32) = 0 by decide)]
      rw [nI_leI (by omega) (by omega)] at c1
      rw [free_eq h (by omega), get_n _ (by omega) (by omega), ← h.2.1 k (by omega), nI_1]
      by_cases c2 : g (7 + k) = -1
      · rw [if_pos c2, if_neg (show ¬ (1 : Int32) = 0 by decide), if_pos c2]
        exact ih m (k + 1) (by omega) (by omega) (by omega)
      · rw [if_neg c2, if_pos rfl, if_neg c2]
        by_cases c3 : g (7 + k) = c
        · rw [if_pos c3, if_pos c3]
          exact ih m (k + 1) (by omega) (by omega) (by omega)
        · rw [if_neg c3, if_neg c3, rClear_0]
theorem rClear_all {g : Rw} {c : Int32} {to : Nat} (ht : to ≤ 80) : ∀ (n k : Nat), k ≤ to → to < k + n → ¬ lp_rClear g c to n 1 k = 0 → ∀ y, k ≤ y → y < to → g (7 + y) = -1 ∨ g (7 + y) = c := by
  intro n
  induction n with
  | zero => intro k h1 h2; omega
  | succ n ih =>
    intro k h1 h2 hn y hy1 hy2
    rw [lp_rClear, if_neg (show ¬ nI to ≤ nI k by rw [nI_leI (by omega) (by omega)]; omega), if_neg (show ¬ (1 : Int32) = 0 by decide)] at hn
    by_cases c2 : g (7 + k) = -1
    · rw [if_pos c2] at hn
      by_cases e : y = k
      · rw [e]; exact Or.inl c2
      · exact ih (k + 1) (by omega) (by omega) hn y (by omega) hy2
    · rw [if_neg c2] at hn
      by_cases c3 : g (7 + k) = c
      · rw [if_pos c3] at hn
        by_cases e : y = k
        · rw [e]; exact Or.inr c3
        · exact ih (k + 1) (by omega) (by omega) hn y (by omega) hy2
      · rw [if_neg c3, rClear_0] at hn
        exact absurd rfl hn
theorem b01 {P : Prop} [Decidable P] : (if P then (0 : Int32) else 1) = 0 ↔ P := by
  by_cases c : P
  · rw [if_pos c]; exact ⟨fun _ => c, fun _ => rfl⟩
  · rw [if_neg c]; exact ⟨fun z => absurd z (by decide), fun z => absurd z c⟩
theorem rClear_b (g : Rw) (c : Int32) (to : Nat) : ∀ (n k : Nat), lp_rClear g c to n 1 k = 0 ∨ lp_rClear g c to n 1 k = 1 := by
  intro n
  induction n with
  | zero => intro k; exact Or.inr rfl
  | succ n ih =>
    intro k
    rw [lp_rClear]
    by_cases c1 : nI to ≤ nI k
    · rw [if_pos c1]; exact Or.inr rfl
    · rw [if_neg c1, if_neg (show ¬ (1 : Int32) = 0 by decide)]
      by_cases c2 : g (7 + k) = -1
      · rw [if_pos c2]; exact ih _
      · rw [if_neg c2]
        by_cases c3 : g (7 + k) = c
        · rw [if_pos c3]; exact ih _
        · rw [if_neg c3, rClear_0]; exact Or.inl rfl
theorem shift_eq {S : St} {g : Rw} (h : Rel S g) (hi : RI g) {c x : Nat} (hc : c < 2 ^ 31) (hx : x < 80) : f_X4_canShift S (nI c) (nI x) = f_X7_canMove g c x := by
  rw [f_X4_canShift, f_X7_canMove, parked_eq h hi]
  by_cases c0 : f_X7_isParked g (nI c) = 0
  · rw [if_pos c0, if_pos c0]
  · rw [if_neg c0, if_neg c0]
    obtain ⟨hcm, hp⟩ := parked_n hi hc c0
    have hm := hi.m.2
    obtain ⟨e3, e0, hx8⟩ := hi.X hcm hp
    have eL : f_X6_get 40 (sL S) (nI c) = nI (pj g c) := by rw [get_n _ (by omega) (by omega), ← (h.2.2.1 c hcm).1, e0]
    have eP : f_X6_get 40 (sP S) (nI c) = nI (px g c) := by rw [get_n _ (by omega) (by omega), ← (h.2.2.1 c hcm).2.2.2.1, e3]
    have hcell : ¬ f_X6_isCell (nI x) = 0 := by
      rw [f_X6_isCell, if_neg (nI_pos (by omega)), if_neg (s80 hx)]
      decide
    have hj := (hi.J hcm).2
    rw [if_neg hcell, eL, eP, e3, nI_add, nI_add]
    by_cases c1 : nI (px g c) ≤ nI x
    · rw [if_pos c1, if_pos c1, if_pos c1]
      have c1' := (nI_leI (by omega) (by omega)).mp c1
      rw [f_X7_isClear]
      by_cases c2 : (80 : Int32) < nI (x + pj g c)
      · have c2' : 80 < x + pj g c := (nI_ltI (a := 80) (by omega) (by omega)).mp c2
        rw [if_pos c2, rClear_0, if_pos rfl, if_neg (fun z => by
          have := (nI_leI (b := 80) (by omega) (by omega)).mp z
          omega)]
      · have c2' : ¬ 80 < x + pj g c := fun z => c2 ((nI_ltI (a := 80) (by omega) (by omega)).mpr z)
        rw [if_neg c2, if_pos (show nI (x + pj g c) ≤ 80 from (nI_leI (b := 80) (by omega) (by omega)).mpr (by omega))]
        have e : ∀ k, k ≤ x + pj g c → lp_clear S (nI c) 82 (nI (x + pj g c)) (nI k) = lp_rClear g (nI c) (x + pj g c) 81 1 k := fun k hk => clear_eq h _ (by omega) _ _ _ hk (by omega) (by omega)
        have hb := rClear_b g (nI c) (x + pj g c) 81 (px g c)
        by_cases c3 : nI x ≤ nI (px g c)
        · have c3' := (nI_leI (by omega) (by omega)).mp c3
          have ex : px g c = x := by omega
          rw [if_pos c3, e x (by omega), ← ex, ex]
          rw [ex] at hb
          rcases hb with z | z <;> rw [z] <;> decide
        · rw [if_neg c3, e _ (by omega)]
          rcases hb with z | z <;> rw [z] <;> decide
    · have c1' : ¬ px g c ≤ x := fun z => c1 ((nI_leI (by omega) (by omega)).mpr z)
      rw [if_neg c1, if_neg c1, if_neg c1, if_pos (show nI (x + pj g c) ≤ 80 from (nI_leI (b := 80) (by omega) (by omega)).mpr (by omega)), if_pos ((nI_leI (by omega) (by omega)).mpr (by omega)), f_X7_isClear, if_neg (show ¬ (80 : Int32) < nI (px g c + pj g c) from fun z => by
        have := (nI_ltI (a := 80) (by omega) (by omega)).mp z
        omega), clear_eq h _ hx8 82 81 x (by omega) (by omega) (by omega)]
      rcases rClear_b g (nI c) (px g c + pj g c) 81 x with z | z <;> rw [z] <;> decide
theorem move_cells {g : Rw} (hi : RI g) {c x : Nat} (hc : c < 2 ^ 31) (hx : x < 80) (hm : ¬ f_X7_canMove g c x = 0) : c < gm g ∧ f_X7_of g c 2 = 0 ∧ x + pj g c ≤ 80 ∧ ∀ y, x ≤ y → y < x + pj g c → g (7 + y) = -1 ∨ g (7 + y) = nI c := by
  rw [f_X7_canMove] at hm
  by_cases c0 : f_X7_isParked g (nI c) = 0
  · rw [if_pos c0] at hm; exact absurd rfl hm
  · rw [if_neg c0] at hm
    obtain ⟨hcm, hp⟩ := parked_n hi hc c0
    have hm40 := hi.m.2
    obtain ⟨e3, e0, hx8⟩ := hi.X hcm hp
    have hj := (hi.J hcm).2
    rw [e3] at hm
    by_cases c1 : nI (px g c) ≤ nI x
    · rw [if_pos c1, if_pos c1] at hm
      have c1' := (nI_leI (by omega) (by omega)).mp c1
      have hcl : ¬ f_X7_isClear g (nI c) (px g c) (x + pj g c) = 0 := fun z => hm (b01.mpr z)
      rw [f_X7_isClear] at hcl
      by_cases c2 : (80 : Int32) < nI (x + pj g c)
      · rw [if_pos c2, rClear_0] at hcl; exact absurd rfl hcl
      · have c2' : ¬ 80 < x + pj g c := fun z => c2 ((nI_ltI (a := 80) (by omega) (by omega)).mpr z)
        rw [if_neg c2] at hcl
        exact ⟨hcm, hp, by omega, fun y h1 h2 => rClear_all (by omega) 81 (px g c) (by omega) (by omega) hcl y (by omega) h2⟩
    · have c1' : ¬ px g c ≤ x := fun z => c1 ((nI_leI (by omega) (by omega)).mpr z)
      rw [if_neg c1, if_neg c1] at hm
      have hcl : ¬ f_X7_isClear g (nI c) x (px g c + pj g c) = 0 := fun z => hm (b01.mpr z)
      rw [f_X7_isClear, if_neg (show ¬ (80 : Int32) < nI (px g c + pj g c) from fun z => by
        have := (nI_ltI (a := 80) (by omega) (by omega)).mp z
        omega)] at hcl
      exact ⟨hcm, hp, by omega, fun y h1 h2 => rClear_all hx8 81 x (by omega) (by omega) hcl y h1 (by omega)⟩
theorem Inv.move {g : Rw} (h : Inv g) {c x : Nat} (hc : c < gm g) (hp : f_X7_of g c 2 = 0) (hx : x + pj g c ≤ 80) (hf : ∀ y, x ≤ y → y < x + pj g c → g (7 + y) = -1 ∨ g (7 + y) = nI c) : Inv (h_X7_lay (h_X7_fill (h_X7_fill g (px g c) (pj g c) (-1)) x (pj g c) (nI c)) c 3 (nI x)) := by
  have hm := h.ri.m.2
  obtain ⟨ex, ej, hx8⟩ := h.ri.X hc hp
  have cl : ∀ y, y < 80 → h_X7_lay (h_X7_fill (h_X7_fill g (px g c) (pj g c) (-1)) x (pj g c) (nI c)) c 3 (nI x) (7 + y) = if x ≤ y ∧ y < x + pj g c then nI c else if inR g c y then -1 else g (7 + y) := fun y hy => by
    rw [lay_lo _ _ (by omega), fill_at _ _ hx, fill_at _ _ hx8]
    by_cases z : x ≤ y ∧ y < x + pj g c
    · rw [if_pos z, if_pos (by omega)]
    · rw [if_neg z, if_neg (by omega)]
      by_cases w : inR g c y
      · rw [if_pos w, if_pos (by have := w.1; have := w.2; omega)]
      · rw [if_neg w, if_neg (fun u => w ⟨by omega, by omega⟩)]
  have oo : ∀ d w, w < 6 → (d ≠ c ∨ w ≠ 3) → f_X7_of (h_X7_lay (h_X7_fill (h_X7_fill g (px g c) (pj g c) (-1)) x (pj g c) (nI c)) c 3 (nI x)) d w = f_X7_of g d w := fun d w hw z => by
    rw [of_lay_ne _ _ (by omega) hw (by omega), of_fill _ _ hx, of_fill _ _ hx8]
  have o3 : f_X7_of (h_X7_lay (h_X7_fill (h_X7_fill g (px g c) (pj g c) (-1)) x (pj g c) (nI c)) c 3 (nI x)) c 3 = nI x := of_lay_eq ..
  have o2 := oo c 2 (by omega) (Or.inr (by omega))
  have ir : ∀ y, inR (h_X7_lay (h_X7_fill (h_X7_fill g (px g c) (pj g c) (-1)) x (pj g c) (nI c)) c 3 (nI x)) c y ↔ x ≤ y ∧ y < x + pj g c := fun y => by
    have e1 : px (h_X7_lay (h_X7_fill (h_X7_fill g (px g c) (pj g c) (-1)) x (pj g c) (nI c)) c 3 (nI x)) c = x := by
      show (f_X7_of _ c 3).toNatClampNeg = x
      rw [o3, nI_clamp (by omega)]
    have e2 : pj (h_X7_lay (h_X7_fill (h_X7_fill g (px g c) (pj g c) (-1)) x (pj g c) (nI c)) c 3 (nI x)) c = pj g c := by
      show (f_X7_of _ c 0).toNatClampNeg = (f_X7_of g c 0).toNatClampNeg
      rw [oo c 0 (by omega) (Or.inr (by omega))]
    unfold inR
    rw [e1, e2]
  have ri := RI_moveOn h.ri hc hp hx
  rw [h_X7_moveOn] at ri
  have ri' : RI (h_X7_lay (h_X7_fill (h_X7_fill g (px g c) (pj g c) (-1)) x (pj g c) (nI c)) c 3 (nI x)) := by
    by_cases z : nI (px g c) ≤ nI x
    · rw [if_pos z] at ri; exact ri
    · rw [if_neg z] at ri; exact ri
  refine h.one c ?_ ri' (fun d w hd hw => oo d w hw (Or.inl hd)) (fun _ => ⟨by rw [oo c 1 (by omega) (Or.inr (by omega)), o2, oo c 4 (by omega) (Or.inr (by omega))]; exact (h.rk c hc).1, by rw [o2, oo c 4 (by omega) (Or.inr (by omega))]; exact (h.rk c hc).2.1, by rw [o2]; exact (h.rk c hc).2.2.1, fun z => absurd (o2.trans hp) z, by rw [oo c 1 (by omega) (Or.inr (by omega)), oo c 4 (by omega) (Or.inr (by omega))]; exact (h.rk c hc).2.2.2.2.1, by rw [o2, oo c 5 (by omega) (Or.inr (by omega))]; exact (h.rk c hc).2.2.2.2.2.1, by rw [o2, oo c 4 (by omega) (Or.inr (by omega))]; exact (h.rk c hc).2.2.2.2.2.2⟩) (fun y hy => ?_) (fun d hd hdm hq y hr => ?_) (fun _ _ y hr => ?_) (by rw [lay_lo _ _ (by omega), fill_lo _ _ _ _ (by omega), fill_lo _ _ _ _ (by omega)]) (by rw [lay_lo _ _ (by omega), fill_lo _ _ _ _ (by omega), fill_lo _ _ _ _ (by omega)])
  · rw [lay_lo _ _ (by omega), fill_lo _ _ _ _ (by omega), fill_lo _ _ _ _ (by omega)]
  · rw [cl y hy]
    by_cases z : x ≤ y ∧ y < x + pj g c
    · rw [if_pos z]
      exact Or.inr (Or.inr (Or.inr ⟨hc, o2.trans hp, rfl, (ir y).mpr z⟩))
    · rw [if_neg z]
      by_cases w : inR g c y
      · rw [if_pos w]; exact Or.inr (Or.inl rfl)
      · rw [if_neg w]; exact Or.inl ⟨rfl, fun _ _ => w⟩
  · have hd8 := h.ri.X hdm hq
    rw [cl y (by have := hr.2; omega)]
    have e1 := h.pc d hdm hq y hr
    by_cases z : x ≤ y ∧ y < x + pj g c
    · rcases hf y z.1 z.2 with e | e
      · rw [e1] at e; exact absurd e (nI_m1 (by omega))
      · rw [e1] at e; exact absurd (nI_inj (by omega) (by omega) e) hd
    · rw [if_neg z, if_neg (fun w => hd (h.apart hc hp hdm hq w hr).symm)]
  · have hz := (ir y).mp hr
    rw [cl y (by omega), if_pos hz]
theorem move_all {S : St} {g : Rw} (h : Rel S g) (hi : Inv g) {c x : Nat} (hc : c < 2 ^ 31) (hx : x < 80) (hm : ¬ f_X7_canMove g c x = 0) : (h_X4_shift S (nI c) (nI x)).1 = (h_X7_moveOn g c x).1 ∧ Rel (h_X4_shift S (nI c) (nI x)).2 (h_X7_moveOn g c x).2 ∧ Inv (h_X7_moveOn g c x).2 := by
  obtain ⟨hcm, hp, hxj, hcl⟩ := move_cells hi.ri hc hx hm
  have hm40 := hi.ri.m.2
  obtain ⟨e3, e0, hx8⟩ := hi.ri.X hcm hp
  have eL : f_X6_get 40 (sL S) (nI c) = nI (pj g c) := by rw [get_n _ (by omega) (by omega), ← (h.2.2.1 c hcm).1, e0]
  have eP : f_X6_get 40 (sP S) (nI c) = nI (px g c) := by rw [get_n _ (by omega) (by omega), ← (h.2.2.1 c hcm).2.2.2.1, e3]
  have r := ((h.occ (-1) hx8).occ (nI c) hxj).qP (c := c) (by omega) (nI x)
  have i := hi.move hcm hp hxj hcl
  have hs : ¬ f_X4_canShift S (nI c) (nI x) = 0 := by rw [shift_eq h hi.ri hc hx]; exact hm
  rw [h_X4_shift, if_neg hs, eL, eP, h_X7_moveOn]
  by_cases c1 : nI x ≤ nI (px g c)
  · rw [if_pos c1]
    have c1' := (nI_leI (by omega) (by omega)).mp c1
    by_cases c2 : nI (px g c) ≤ nI x
    · have c2' := (nI_leI (by omega) (by omega)).mp c2
      rw [if_pos c2]
      exact ⟨by rw [show px g c = x by omega], r, i⟩
    · rw [if_neg c2]
      exact ⟨rfl, r, i⟩
  · have c1' : ¬ x ≤ px g c := fun z => c1 ((nI_leI (by omega) (by omega)).mpr z)
    rw [if_neg c1, if_pos ((nI_leI (by omega) (by omega)).mpr (by omega))]
    exact ⟨rfl, r, i⟩
