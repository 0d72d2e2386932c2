theorem place_okE {g : Rw} {j : Nat} (hj : j ≤ 8) (h3 : ∃ r, r ≤ 4 ∧ g 3 = nI r) : plOk (h_X7_placeFor g (nI j)).1 j := by
  obtain ⟨r, hr, h3⟩ := h3
  exact place_ok hj hr h3
theorem rPick_g (len : Int32) : ∀ (n : Nat) (left : Int32) (k : Nat) (g : Rw), (lp_rPick len n left k g).2 = g := by
  intro n
  induction n with
  | zero => intro left k g; rfl
  | succ n ih =>
    intro left k g
    rw [lp_rPick]
    repeat' split
    all_goals first | rfl | exact ih ..
theorem rAll_g (g : Rw) (len : Int32) {i : Nat} (h5 : i ≠ 5) (h6 : i ≠ 6) : ∀ (n : Nat) (t : Int32) (k : Nat), (lp_rAll g len n t k).2 i = g i := by
  intro n
  induction n with
  | zero => intro t k; rfl
  | succ n ih =>
    intro t k
    rw [lp_rAll]
    repeat' split
    all_goals first | rfl | exact ih .. | (rw [rPick_g]; exact lay_3 g _ h5 h6)
theorem place_g (g : Rw) (len : Int32) {i : Nat} (h5 : i ≠ 5) (h6 : i ≠ 6) : (h_X7_placeFor g len).2 i = g i := by
  rw [h_X7_placeFor]
  split
  · exact rAll_g g len h5 h6 _ _ _
  · rfl
theorem of_place (g : Rw) (len : Int32) (c w : Nat) : f_X7_of (h_X7_placeFor g len).2 c w = f_X7_of g c w := place_g g len (by omega) (by omega)
theorem of_lay_eq (g : Rw) (c w : Nat) (v : Int32) : f_X7_of (h_X7_lay g c w v) c w = v := by rw [f_X7_of, h_X7_lay, pk_us]
theorem of_lay_ne (g : Rw) {c w d u : Nat} (v : Int32) (hw : w < 6) (hu : u < 6) (h : c ≠ d ∨ w ≠ u) : f_X7_of (h_X7_lay g c w v) d u = f_X7_of g d u := by
  rw [f_X7_of, h_X7_lay, pk_un (by omega), f_X7_of]
theorem lay_lo (g : Rw) {c w i : Nat} (v : Int32) (h : i < 87) : h_X7_lay g c w v i = g i := by rw [h_X7_lay, pk_un (by omega)]
theorem of_upd (g : Rw) {i c w : Nat} (v : Int32) (h : i < 87) : f_X7_of (upd g i v) c w = f_X7_of g c w := by rw [f_X7_of, pk_un (by omega), f_X7_of]
theorem pj_self {g : Rw} {c j : Nat} (h : f_X7_of g c 0 = nI j) (hj : j ≤ 8) : f_X7_of g c 0 = nI (pj g c) ∧ pj g c = j := by
  have e : pj g c = j := by rw [pj, h, nI_clamp (by omega)]
  exact ⟨by rw [e]; exact h, e⟩
theorem px_self {g : Rw} {c x : Nat} (h : f_X7_of g c 3 = nI x) (hx : x ≤ 80) : f_X7_of g c 3 = nI (px g c) ∧ px g c = x := by
  have e : px g c = x := by rw [px, h, nI_clamp (by omega)]
  exact ⟨by rw [e]; exact h, e⟩

def h_X7_parks (g : Rw) (c : Nat) : Int32 × Rw :=
  if ((h_X7_placeFor g (nI (pj g c))).1) = (-1) then (if ((h_X7_placeFor g (nI (pj g c))).1) = (-1) then (0, (h_X7_placeFor g (nI (pj g c))).2) else
    (1, (h_X7_placeFor g (nI (pj g c))).2)) else
  if ((h_X7_placeFor g (nI (pj g c))).1) = (-1) then (0, (h_X7_lay (h_X7_lay (h_X7_fill ((h_X7_placeFor g (nI (pj g c))).2) (((h_X7_placeFor g (nI (pj g c))).1).toNatClampNeg) (pj g c) (nI c)) c 3 ((h_X7_placeFor g (nI (pj g c))).1)) c 2 0)) else
  (1, (h_X7_lay (h_X7_lay (h_X7_fill ((h_X7_placeFor g (nI (pj g c))).2) (((h_X7_placeFor g (nI (pj g c))).1).toNatClampNeg) (pj g c) (nI c)) c 3 ((h_X7_placeFor g (nI (pj g c))).1)) c 2 0))
set_option maxHeartbeats 4000000 in
set_option maxRecDepth 100000 in
theorem c_X7_parks (l : Launch) (G : GG) (a : Nat) (g : Rw) (c : Nat) (hc : c < 40) (hpj : f_X7_of g c 0 = nI (pj g c)) (hp8 : pj g c ≤ 8) (h3 : ∃ r, r ≤ 4 ∧ g 3 = nI r) : Met l yX7_parks wsX7_parks ({ frames := 4, cells := 0, slots := 0, locals := 91 }) (PcH G [.ref a, .int (nI c)] (Arr G 0 a 327 g)) (QM (some (.int ((h_X7_parks g c).1))) (Arr G 0 a 327 ((h_X7_parks g c).2)) (one a)) 0 0 (one a) := by
  refine metH (cc := cX7_parks) (maxL := 3) (ret := (some .boolean)) (by decide) rfl ?_
  intro p e s m below meth cd hx hb hr hml hown hts hlocks hP hO
  have hA : ∀ q, (one a) q → (one a) q := fun _ h => h
  have hS : va_S (one a) s.heap s.heap [] := va_S.rf
  have hl := lv_entry ([.ref a, .int (nI c)]) (n := 3) (Nat.le_of_ble_eq_true rfl)
  rw [lg_entry_eq]
  generalize (lg_sl ([.ref a, .int (nI c)]) ++ List.replicate (3 - (lg_sl ([.ref a, .int (nI c)])).length) Slot.unset).toArray = ls at hl ⊢
  have hl : lv_has ls 3 [(0, .ref a), (1, .int (nI c))] := hl
  refine lv_aload_n hx hb dX7_parks_0 rfl (lv_at hl 0 rfl) ?_
  refine lv_aload_n hx hb dX7_parks_1 rfl (lv_at hl 0 rfl) ?_
  refine lv_iload_n hx hb dX7_parks_2 rfl (lv_at hl 1 rfl) ?_
  refine lv_iconst (v := 0) hx hb dX7_parks_3 (by decide) ?_
  refine cl_pi (rS (As := [.ref a, .int (nI c), .int 0]) (rest := [.ref a]) ⟨hx, hb, hml, hown, hts⟩ (c_X7_of l G a g c 0 (by omega)) (va_cwS 3 hts gX7_parks_X7_of rfl rfl rfl (by decide +kernel) ⟨Nat.le_of_ble_eq_true rfl, Nat.le_of_ble_eq_true rfl⟩) hP hO rfl hl.1 (Nat.le_of_ble_eq_true rfl) dX7_parks_4 ⟨Nat.le_of_ble_eq_true rfl, Nat.le_of_ble_eq_true rfl⟩) ?_
  rw [hpj]
  refine cl_mi (rS (As := [.ref a, .int (nI (pj g c))]) (rest := []) ⟨hx, hb, hml, hown, hts⟩ (c_X7_placeFor l G a g (nI (pj g c))) (va_cwS 2 hts gX7_parks_X7_placeFor rfl rfl rfl (by decide +kernel) ⟨Nat.le_of_ble_eq_true rfl, Nat.le_of_ble_eq_true rfl⟩) hP hO rfl hl.1 (Nat.le_of_ble_eq_true rfl) dX7_parks_7 ⟨Nat.le_of_ble_eq_true rfl, Nat.le_of_ble_eq_true rfl⟩) hS hA (fun H locs hP1 hz hk hS => ?_)
  have hP : Arr G 0 a 327 ((h_X7_placeFor g (nI (pj g c))).2) H := hP1
  refine lv_istore_n (lv' := [(2, .int ((h_X7_placeFor g (nI (pj g c))).1)), (0, .ref a), (1, .int (nI c))]) hx hb dX7_parks_10 rfl hl (by decide) rfl (fun ls hl => ?_)
  refine lv_iload_n hx hb dX7_parks_11 rfl (lv_at hl 0 rfl) ?_
  refine lv_iconst (v := -1) hx hb dX7_parks_12 (by decide) ?_
  refine lv_icmp_eq (tgt := 42) hx hb dX7_parks_13 (by decide) (fun c_1 => ?_) (fun c_1 => ?_)
  · refine lv_iload_n hx hb dX7_parks_42 rfl (lv_at hl 0 rfl) ?_
    refine lv_iconst (v := -1) hx hb dX7_parks_43 (by decide) ?_
    refine lv_icmp_eq (tgt := 51) hx hb dX7_parks_44 (by decide) (fun c_2 => ?_) (fun c_2 => ?_)
    · refine lv_iconst (v := 0) hx hb dX7_parks_51 (by decide) ?_
      have hE : h_X7_parks g c = (0, (h_X7_placeFor g (nI (pj g c))).2) := (by rw [h_X7_parks, if_pos c_1, if_pos c_2])
      have hE2 := snd_of hE
      exact W.zret (ty := .boolean) hx hb hr rfl (fun t ht hW => ⟨by rw [fst_of hE], by rw [ht, hE2]; exact hP, hS.F ht⟩) hS.2.2 dX7_parks_52
    · refine lv_iconst (v := 1) hx hb dX7_parks_47 (by decide) ?_
      refine lv_goto (tgt := 52) hx hb dX7_parks_48 (by decide) ?_
      have hE : h_X7_parks g c = (1, (h_X7_placeFor g (nI (pj g c))).2) := (by rw [h_X7_parks, if_pos c_1, if_neg c_2])
      have hE2 := snd_of hE
      exact W.zret (ty := .boolean) hx hb hr rfl (fun t ht hW => ⟨by rw [fst_of hE], by rw [ht, hE2]; exact hP, hS.F ht⟩) hS.2.2 dX7_parks_52
  · refine lv_aload_n hx hb dX7_parks_16 rfl (lv_at hl 1 rfl) ?_
    refine lv_iload_n hx hb dX7_parks_17 rfl (lv_at hl 0 rfl) ?_
    rw [(pl_n (place_okE hp8 h3) (by assumption)).1]
    refine lv_aload_n hx hb dX7_parks_18 rfl (lv_at hl 1 rfl) ?_
    refine lv_iload_n hx hb dX7_parks_19 rfl (lv_at hl 2 rfl) ?_
    refine lv_iconst (v := 0) hx hb dX7_parks_20 (by decide) ?_
    refine cl_pi (rS (As := [.ref a, .int (nI c), .int 0]) (rest := [.int (nI (((h_X7_placeFor g (nI (pj g c))).1).toNatClampNeg)), .ref a]) ⟨hx, hb, hml, hown, hts⟩ (c_X7_of l G a ((h_X7_placeFor g (nI (pj g c))).2) c 0 (by omega)) (va_cwS 3 hts gX7_parks_X7_of rfl rfl rfl (by decide +kernel) ⟨Nat.le_of_ble_eq_true rfl, Nat.le_of_ble_eq_true rfl⟩) hP hO rfl hl.1 (Nat.le_of_ble_eq_true rfl) dX7_parks_21 ⟨Nat.le_of_ble_eq_true rfl, Nat.le_of_ble_eq_true rfl⟩) ?_
    rw [(of_place g _ c 0).trans hpj]
    refine lv_iload_n hx hb dX7_parks_24 rfl (lv_at hl 2 rfl) ?_
    refine cl_mv (rS (As := [.ref a, .int (nI (((h_X7_placeFor g (nI (pj g c))).1).toNatClampNeg)), .int (nI (pj g c)), .int (nI c)]) (rest := []) ⟨hx, hb, hml, hown, hts⟩ (c_X7_fill l G a ((h_X7_placeFor g (nI (pj g c))).2) (((h_X7_placeFor g (nI (pj g c))).1).toNatClampNeg) (pj g c) (nI c) (pl_n (place_okE hp8 h3) (by assumption)).2) (va_cwS 4 hts gX7_parks_X7_fill rfl rfl rfl (by decide +kernel) ⟨Nat.le_of_ble_eq_true rfl, Nat.le_of_ble_eq_true rfl⟩) hP hO rfl hl.1 (Nat.le_of_ble_eq_true rfl) dX7_parks_25 ⟨Nat.le_of_ble_eq_true rfl, Nat.le_of_ble_eq_true rfl⟩) hS hA (fun H locs hP1 hz hk hS => ?_)
    have hP : Arr G 0 a 327 (h_X7_fill ((h_X7_placeFor g (nI (pj g c))).2) (((h_X7_placeFor g (nI (pj g c))).1).toNatClampNeg) (pj g c) (nI c)) H := hP1
    refine lv_aload_n hx hb dX7_parks_28 rfl (lv_at hl 1 rfl) ?_
    refine lv_iload_n hx hb dX7_parks_29 rfl (lv_at hl 2 rfl) ?_
    refine lv_iconst (v := 3) hx hb dX7_parks_30 (by decide) ?_
    refine lv_iload_n hx hb dX7_parks_31 rfl (lv_at hl 0 rfl) ?_
    refine cl_mv (rS (As := [.ref a, .int (nI c), .int 3, .int ((h_X7_placeFor g (nI (pj g c))).1)]) (rest := []) ⟨hx, hb, hml, hown, hts⟩ (c_X7_lay l G a (h_X7_fill ((h_X7_placeFor g (nI (pj g c))).2) (((h_X7_placeFor g (nI (pj g c))).1).toNatClampNeg) (pj g c) (nI c)) c 3 ((h_X7_placeFor g (nI (pj g c))).1) (by omega)) (va_cwS 4 hts gX7_parks_X7_lay rfl rfl rfl (by decide +kernel) ⟨Nat.le_of_ble_eq_true rfl, Nat.le_of_ble_eq_true rfl⟩) hP hO rfl hl.1 (Nat.le_of_ble_eq_true rfl) dX7_parks_32 ⟨Nat.le_of_ble_eq_true rfl, Nat.le_of_ble_eq_true rfl⟩) hS hA (fun H locs hP1 hz hk hS => ?_)
    have hP : Arr G 0 a 327 (h_X7_lay (h_X7_fill ((h_X7_placeFor g (nI (pj g c))).2) (((h_X7_placeFor g (nI (pj g c))).1).toNatClampNeg) (pj g c) (nI c)) c 3 ((h_X7_placeFor g (nI (pj g c))).1)) H := hP1
    refine lv_aload_n hx hb dX7_parks_35 rfl (lv_at hl 1 rfl) ?_
    refine lv_iload_n hx hb dX7_parks_36 rfl (lv_at hl 2 rfl) ?_
    refine lv_iconst (v := 2) hx hb dX7_parks_37 (by decide) ?_
    refine lv_iconst (v := 0) hx hb dX7_parks_38 (by decide) ?_
    refine cl_mv (rS (As := [.ref a, .int (nI c), .int 2, .int 0]) (rest := []) ⟨hx, hb, hml, hown, hts⟩ (c_X7_lay l G a (h_X7_lay (h_X7_fill ((h_X7_placeFor g (nI (pj g c))).2) (((h_X7_placeFor g (nI (pj g c))).1).toNatClampNeg) (pj g c) (nI c)) c 3 ((h_X7_placeFor g (nI (pj g c))).1)) c 2 0 (by omega)) (va_cwS 4 hts gX7_parks_X7_lay rfl rfl rfl (by decide +kernel) ⟨Nat.le_of_ble_eq_true rfl, Nat.le_of_ble_eq_true rfl⟩) hP hO rfl hl.1 (Nat.le_of_ble_eq_true rfl) dX7_parks_39 ⟨Nat.le_of_ble_eq_true rfl, Nat.le_of_ble_eq_true rfl⟩) hS hA (fun H locs hP1 hz hk hS => ?_)
    have hP : Arr G 0 a 327 (h_X7_lay (h_X7_lay (h_X7_fill ((h_X7_placeFor g (nI (pj g c))).2) (((h_X7_placeFor g (nI (pj g c))).1).toNatClampNeg) (pj g c) (nI c)) c 3 ((h_X7_placeFor g (nI (pj g c))).1)) c 2 0) H := hP1
    refine lv_iload_n hx hb dX7_parks_42 rfl (lv_at hl 0 rfl) ?_
    refine lv_iconst (v := -1) hx hb dX7_parks_43 (by decide) ?_
    refine lv_icmp_eq (tgt := 51) hx hb dX7_parks_44 (by decide) (fun c_3 => ?_) (fun c_3 => ?_)
    · refine lv_iconst (v := 0) hx hb dX7_parks_51 (by decide) ?_
      have hE : h_X7_parks g c = (0, (h_X7_lay (h_X7_lay (h_X7_fill ((h_X7_placeFor g (nI (pj g c))).2) (((h_X7_placeFor g (nI (pj g c))).1).toNatClampNeg) (pj g c) (nI c)) c 3 ((h_X7_placeFor g (nI (pj g c))).1)) c 2 0)) := (by rw [h_X7_parks, if_neg c_1, if_pos c_3])
      have hE2 := snd_of hE
      exact W.zret (ty := .boolean) hx hb hr rfl (fun t ht hW => ⟨by rw [fst_of hE], by rw [ht, hE2]; exact hP, hS.F ht⟩) hS.2.2 dX7_parks_52
    · refine lv_iconst (v := 1) hx hb dX7_parks_47 (by decide) ?_
      refine lv_goto (tgt := 52) hx hb dX7_parks_48 (by decide) ?_
      have hE : h_X7_parks g c = (1, (h_X7_lay (h_X7_lay (h_X7_fill ((h_X7_placeFor g (nI (pj g c))).2) (((h_X7_placeFor g (nI (pj g c))).1).toNatClampNeg) (pj g c) (nI c)) c 3 ((h_X7_placeFor g (nI (pj g c))).1)) c 2 0)) := (by rw [h_X7_parks, if_neg c_1, if_neg c_3])
      have hE2 := snd_of hE
      exact W.zret (ty := .boolean) hx hb hr rfl (fun t ht hW => ⟨by rw [fst_of hE], by rw [ht, hE2]; exact hP, hS.F ht⟩) hS.2.2 dX7_parks_52

theorem b_h_X7_parks (g : Rw) (c : Nat) : (h_X7_parks g c).1 = 0 ∨ (h_X7_parks g c).1 = 1 := by
  unfold h_X7_parks
  repeat' split
  all_goals first | exact Or.inl rfl | exact Or.inr rfl

def gm (g : Rw) : Nat := (g 0).toNatClampNeg
theorem come_of (g : Rw) (c : Nat) (len stay z : Int32) : f_X7_of (upd (h_X7_lay (h_X7_lay (h_X7_lay (h_X7_lay (h_X7_lay (h_X7_lay g c 0 len) c 1 stay) c 2 1) c 3 (-1)) c 4 0) c 5 0) 0 z) c 0 = len := by
  rw [of_upd _ _ (by omega), of_lay_ne _ _ (by omega) (by omega) (Or.inr (by omega)), of_lay_ne _ _ (by omega) (by omega) (Or.inr (by omega)), of_lay_ne _ _ (by omega) (by omega) (Or.inr (by omega)), of_lay_ne _ _ (by omega) (by omega) (Or.inr (by omega)), of_lay_ne _ _ (by omega) (by omega) (Or.inr (by omega)), of_lay_eq]
theorem come_3 (g : Rw) (c : Nat) (len stay z : Int32) : (upd (h_X7_lay (h_X7_lay (h_X7_lay (h_X7_lay (h_X7_lay (h_X7_lay g c 0 len) c 1 stay) c 2 1) c 3 (-1)) c 4 0) c 5 0) 0 z) 3 = g 3 := by
  rw [pk_un (by omega), lay_lo _ _ (by omega), lay_lo _ _ (by omega), lay_lo _ _ (by omega), lay_lo _ _ (by omega), lay_lo _ _ (by omega), lay_lo _ _ (by omega)]

def h_X7_comeOn (g : Rw) (len : Int32) (stay : Int32) : Int32 × Rw :=
  (nI (gm g), (h_X7_parks (upd (h_X7_lay (h_X7_lay (h_X7_lay (h_X7_lay (h_X7_lay (h_X7_lay g (gm g) 0 len) (gm g) 1 stay) (gm g) 2 1) (gm g) 3 (-1)) (gm g) 4 0) (gm g) 5 0) 0 (((h_X7_lay (h_X7_lay (h_X7_lay (h_X7_lay (h_X7_lay (h_X7_lay g (gm g) 0 len) (gm g) 1 stay) (gm g) 2 1) (gm g) 3 (-1)) (gm g) 4 0) (gm g) 5 0) 0) + 1)) (gm g)).2)
set_option maxHeartbeats 4000000 in
set_option maxRecDepth 100000 in
theorem c_X7_comeOn (l : Launch) (G : GG) (a : Nat) (g : Rw) (len : Int32) (stay : Int32) (hm0 : g 0 = nI (gm g)) (h40 : gm g < 40) (hlen : ∃ j, j ≤ 8 ∧ len = nI j) (h3 : ∃ r, r ≤ 4 ∧ g 3 = nI r) : Met l yX7_comeOn wsX7_comeOn ({ frames := 5, cells := 0, slots := 0, locals := 113 }) (PcH G [.ref a, .int len, .int stay] (Arr G 0 a 327 g)) (QM (some (.int ((h_X7_comeOn g len stay).1))) (Arr G 0 a 327 ((h_X7_comeOn g len stay).2)) (one a)) 0 0 (one a) := by
  refine metH (cc := cX7_comeOn) (maxL := 4) (ret := (some .int)) (by decide) rfl ?_
  intro p e s m below meth cd hx hb hr hml hown hts hlocks hP hO
  have hA : ∀ q, (one a) q → (one a) q := fun _ h => h
  have hS : va_S (one a) s.heap s.heap [] := va_S.rf
  have hl := lv_entry ([.ref a, .int len, .int stay]) (n := 4) (Nat.le_of_ble_eq_true rfl)
  rw [lg_entry_eq]
  generalize (lg_sl ([.ref a, .int len, .int stay]) ++ List.replicate (4 - (lg_sl ([.ref a, .int len, .int stay])).length) Slot.unset).toArray = ls at hl ⊢
  have hl : lv_has ls 4 [(0, .ref a), (1, .int len), (2, .int stay)] := hl
  refine lv_aload_n hx hb dX7_comeOn_0 rfl (lv_at hl 0 rfl) ?_
  refine lv_iconst (v := 0) hx hb dX7_comeOn_1 (by decide) ?_
  refine iald_n (k := 0) hx hb hO.1 hP 0 0 rfl rfl (by omega) (by decide) dX7_comeOn_2 ?_
  rw [hm0]
  refine lv_istore_n (lv' := [(3, .int (nI (gm g))), (0, .ref a), (1, .int len), (2, .int stay)]) hx hb dX7_comeOn_3 rfl hl (by decide) rfl (fun ls hl => ?_)
  refine lv_aload_n hx hb dX7_comeOn_4 rfl (lv_at hl 1 rfl) ?_
  refine lv_iload_n hx hb dX7_comeOn_5 rfl (lv_at hl 0 rfl) ?_
  refine lv_iconst (v := 0) hx hb dX7_comeOn_6 (by decide) ?_
  refine lv_iload_n hx hb dX7_comeOn_7 rfl (lv_at hl 2 rfl) ?_
  refine cl_mv (rS (As := [.ref a, .int (nI (gm g)), .int 0, .int len]) (rest := []) ⟨hx, hb, hml, hown, hts⟩ (c_X7_lay l G a g (gm g) 0 len (by omega)) (va_cwS 4 hts gX7_comeOn_X7_lay rfl rfl rfl (by decide +kernel) ⟨Nat.le_of_ble_eq_true rfl, Nat.le_of_ble_eq_true rfl⟩) hP hO rfl hl.1 (Nat.le_of_ble_eq_true rfl) dX7_comeOn_8 ⟨Nat.le_of_ble_eq_true rfl, Nat.le_of_ble_eq_true rfl⟩) hS hA (fun H locs hP1 hz hk hS => ?_)
  have hP : Arr G 0 a 327 (h_X7_lay g (gm g) 0 len) H := hP1
  refine lv_aload_n hx hb dX7_comeOn_11 rfl (lv_at hl 1 rfl) ?_
  refine lv_iload_n hx hb dX7_comeOn_12 rfl (lv_at hl 0 rfl) ?_
  refine lv_iconst (v := 1) hx hb dX7_comeOn_13 (by decide) ?_
  refine lv_iload_n hx hb dX7_comeOn_14 rfl (lv_at hl 3 rfl) ?_
  refine cl_mv (rS (As := [.ref a, .int (nI (gm g)), .int 1, .int stay]) (rest := []) ⟨hx, hb, hml, hown, hts⟩ (c_X7_lay l G a (h_X7_lay g (gm g) 0 len) (gm g) 1 stay (by omega)) (va_cwS 4 hts gX7_comeOn_X7_lay rfl rfl rfl (by decide +kernel) ⟨Nat.le_of_ble_eq_true rfl, Nat.le_of_ble_eq_true rfl⟩) hP hO rfl hl.1 (Nat.le_of_ble_eq_true rfl) dX7_comeOn_15 ⟨Nat.le_of_ble_eq_true rfl, Nat.le_of_ble_eq_true rfl⟩) hS hA (fun H locs hP1 hz hk hS => ?_)
  have hP : Arr G 0 a 327 (h_X7_lay (h_X7_lay g (gm g) 0 len) (gm g) 1 stay) H := hP1
  refine lv_aload_n hx hb dX7_comeOn_18 rfl (lv_at hl 1 rfl) ?_
  refine lv_iload_n hx hb dX7_comeOn_19 rfl (lv_at hl 0 rfl) ?_
  refine lv_iconst (v := 2) hx hb dX7_comeOn_20 (by decide) ?_
  refine lv_iconst (v := 1) hx hb dX7_comeOn_21 (by decide) ?_
  refine cl_mv (rS (As := [.ref a, .int (nI (gm g)), .int 2, .int 1]) (rest := []) ⟨hx, hb, hml, hown, hts⟩ (c_X7_lay l G a (h_X7_lay (h_X7_lay g (gm g) 0 len) (gm g) 1 stay) (gm g) 2 1 (by omega)) (va_cwS 4 hts gX7_comeOn_X7_lay rfl rfl rfl (by decide +kernel) ⟨Nat.le_of_ble_eq_true rfl, Nat.le_of_ble_eq_true rfl⟩) hP hO rfl hl.1 (Nat.le_of_ble_eq_true rfl) dX7_comeOn_22 ⟨Nat.le_of_ble_eq_true rfl, Nat.le_of_ble_eq_true rfl⟩) hS hA (fun H locs hP1 hz hk hS => ?_)
  have hP : Arr G 0 a 327 (h_X7_lay (h_X7_lay (h_X7_lay g (gm g) 0 len) (gm g) 1 stay) (gm g) 2 1) H := hP1
  refine lv_aload_n hx hb dX7_comeOn_25 rfl (lv_at hl 1 rfl) ?_
  refine lv_iload_n hx hb dX7_comeOn_26 rfl (lv_at hl 0 rfl) ?_
  refine lv_iconst (v := 3) hx hb dX7_comeOn_27 (by decide) ?_
  refine lv_iconst (v := -1) hx hb dX7_comeOn_28 (by decide) ?_
  refine cl_mv (rS (As := [.ref a, .int (nI (gm g)), .int 3, .int (-1)]) (rest := []) ⟨hx, hb, hml, hown, hts⟩ (c_X7_lay l G a (h_X7_lay (h_X7_lay (h_X7_lay g (gm g) 0 len) (gm g) 1 stay) (gm g) 2 1) (gm g) 3 (-1) (by omega)) (va_cwS 4 hts gX7_comeOn_X7_lay rfl rfl rfl (by decide +kernel) ⟨Nat.le_of_ble_eq_true rfl, Nat.le_of_ble_eq_true rfl⟩) hP hO rfl hl.1 (Nat.le_of_ble_eq_true rfl) dX7_comeOn_29 ⟨Nat.le_of_ble_eq_true rfl, Nat.le_of_ble_eq_true rfl⟩) hS hA (fun H locs hP1 hz hk hS => ?_)
  have hP : Arr G 0 a 327 (h_X7_lay (h_X7_lay (h_X7_lay (h_X7_lay g (gm g) 0 len) (gm g) 1 stay) (gm g) 2 1) (gm g) 3 (-1)) H := hP1
  refine lv_aload_n hx hb dX7_comeOn_32 rfl (lv_at hl 1 rfl) ?_
  refine lv_iload_n hx hb dX7_comeOn_33 rfl (lv_at hl 0 rfl) ?_
  refine lv_iconst (v := 4) hx hb dX7_comeOn_34 (by decide) ?_
  refine lv_iconst (v := 0) hx hb dX7_comeOn_35 (by decide) ?_
  refine cl_mv (rS (As := [.ref a, .int (nI (gm g)), .int 4, .int 0]) (rest := []) ⟨hx, hb, hml, hown, hts⟩ (c_X7_lay l G a (h_X7_lay (h_X7_lay (h_X7_lay (h_X7_lay g (gm g) 0 len) (gm g) 1 stay) (gm g) 2 1) (gm g) 3 (-1)) (gm g) 4 0 (by omega)) (va_cwS 4 hts gX7_comeOn_X7_lay rfl rfl rfl (by decide +kernel) ⟨Nat.le_of_ble_eq_true rfl, Nat.le_of_ble_eq_true rfl⟩) hP hO rfl hl.1 (Nat.le_of_ble_eq_true rfl) dX7_comeOn_36 ⟨Nat.le_of_ble_eq_true rfl, Nat.le_of_ble_eq_true rfl⟩) hS hA (fun H locs hP1 hz hk hS => ?_)
  have hP : Arr G 0 a 327 (h_X7_lay (h_X7_lay (h_X7_lay (h_X7_lay (h_X7_lay g (gm g) 0 len) (gm g) 1 stay) (gm g) 2 1) (gm g) 3 (-1)) (gm g) 4 0) H := hP1
  refine lv_aload_n hx hb dX7_comeOn_39 rfl (lv_at hl 1 rfl) ?_
  refine lv_iload_n hx hb dX7_comeOn_40 rfl (lv_at hl 0 rfl) ?_
  refine lv_iconst (v := 5) hx hb dX7_comeOn_41 (by decide) ?_
  refine lv_iconst (v := 0) hx hb dX7_comeOn_42 (by decide) ?_
  refine cl_mv (rS (As := [.ref a, .int (nI (gm g)), .int 5, .int 0]) (rest := []) ⟨hx, hb, hml, hown, hts⟩ (c_X7_lay l G a (h_X7_lay (h_X7_lay (h_X7_lay (h_X7_lay (h_X7_lay g (gm g) 0 len) (gm g) 1 stay) (gm g) 2 1) (gm g) 3 (-1)) (gm g) 4 0) (gm g) 5 0 (by omega)) (va_cwS 4 hts gX7_comeOn_X7_lay rfl rfl rfl (by decide +kernel) ⟨Nat.le_of_ble_eq_true rfl, Nat.le_of_ble_eq_true rfl⟩) hP hO rfl hl.1 (Nat.le_of_ble_eq_true rfl) dX7_comeOn_43 ⟨Nat.le_of_ble_eq_true rfl, Nat.le_of_ble_eq_true rfl⟩) hS hA (fun H locs hP1 hz hk hS => ?_)
  have hP : Arr G 0 a 327 (h_X7_lay (h_X7_lay (h_X7_lay (h_X7_lay (h_X7_lay (h_X7_lay g (gm g) 0 len) (gm g) 1 stay) (gm g) 2 1) (gm g) 3 (-1)) (gm g) 4 0) (gm g) 5 0) H := hP1
  refine lv_aload_n hx hb dX7_comeOn_46 rfl (lv_at hl 1 rfl) ?_
  refine lv_iconst (v := 0) hx hb dX7_comeOn_47 (by decide) ?_
  refine lv_dup2_11 hx hb dX7_comeOn_48 rfl rfl ?_
  refine iald_n (k := 0) hx hb hO.1 hP 0 0 rfl rfl (by omega) (by decide) dX7_comeOn_49 ?_
  refine lv_iconst (v := 1) hx hb dX7_comeOn_50 (by decide) ?_
  refine lv_iadd hx hb dX7_comeOn_51 ?_
  refine iast_n (k := 0) hx hb hO.1 hP (Arr_D (hA _ rfl)) hS 0 0 rfl rfl (by omega) (by decide) dX7_comeOn_52 (fun H locs hP hD hS => ?_)
  have hP : Arr G 0 a 327 (upd (h_X7_lay (h_X7_lay (h_X7_lay (h_X7_lay (h_X7_lay (h_X7_lay g (gm g) 0 len) (gm g) 1 stay) (gm g) 2 1) (gm g) 3 (-1)) (gm g) 4 0) (gm g) 5 0) 0 (((h_X7_lay (h_X7_lay (h_X7_lay (h_X7_lay (h_X7_lay (h_X7_lay g (gm g) 0 len) (gm g) 1 stay) (gm g) 2 1) (gm g) 3 (-1)) (gm g) 4 0) (gm g) 5 0) 0) + 1)) H := id hP
  refine lv_aload_n hx hb dX7_comeOn_53 rfl (lv_at hl 1 rfl) ?_
  refine lv_iload_n hx hb dX7_comeOn_54 rfl (lv_at hl 0 rfl) ?_
  refine cl_mi (rS (As := [.ref a, .int (nI (gm g))]) (rest := []) ⟨hx, hb, hml, hown, hts⟩ (c_X7_parks l G a (upd (h_X7_lay (h_X7_lay (h_X7_lay (h_X7_lay (h_X7_lay (h_X7_lay g (gm g) 0 len) (gm g) 1 stay) (gm g) 2 1) (gm g) 3 (-1)) (gm g) 4 0) (gm g) 5 0) 0 (((h_X7_lay (h_X7_lay (h_X7_lay (h_X7_lay (h_X7_lay (h_X7_lay g (gm g) 0 len) (gm g) 1 stay) (gm g) 2 1) (gm g) 3 (-1)) (gm g) 4 0) (gm g) 5 0) 0) + 1)) (gm g) h40 (by obtain ⟨j, hj, e⟩ := hlen; exact (pj_self ((come_of ..).trans e) hj).1) (by obtain ⟨j, hj, e⟩ := hlen; exact Nat.le_trans (Nat.le_of_eq (pj_self ((come_of ..).trans e) hj).2) hj) (by obtain ⟨r, hr, e⟩ := h3; exact ⟨r, hr, (come_3 ..).trans e⟩)) (va_cwS 2 hts gX7_comeOn_X7_parks rfl rfl rfl (by decide +kernel) ⟨Nat.le_of_ble_eq_true rfl, Nat.le_of_ble_eq_true rfl⟩) hP hO rfl hl.1 (Nat.le_of_ble_eq_true rfl) dX7_comeOn_55 ⟨Nat.le_of_ble_eq_true rfl, Nat.le_of_ble_eq_true rfl⟩) hS hA (fun H locs hP1 hz hk hS => ?_)
  have hP : Arr G 0 a 327 ((h_X7_parks (upd (h_X7_lay (h_X7_lay (h_X7_lay (h_X7_lay (h_X7_lay (h_X7_lay g (gm g) 0 len) (gm g) 1 stay) (gm g) 2 1) (gm g) 3 (-1)) (gm g) 4 0) (gm g) 5 0) 0 (((h_X7_lay (h_X7_lay (h_X7_lay (h_X7_lay (h_X7_lay (h_X7_lay g (gm g) 0 len) (gm g) 1 stay) (gm g) 2 1) (gm g) 3 (-1)) (gm g) 4 0) (gm g) 5 0) 0) + 1)) (gm g)).2) H := hP1
  refine lv_pop hx hb dX7_comeOn_58 rfl ?_
  refine lv_iload_n hx hb dX7_comeOn_59 rfl (lv_at hl 0 rfl) ?_
  have hE : h_X7_comeOn g len stay = (nI (gm g), (h_X7_parks (upd (h_X7_lay (h_X7_lay (h_X7_lay (h_X7_lay (h_X7_lay (h_X7_lay g (gm g) 0 len) (gm g) 1 stay) (gm g) 2 1) (gm g) 3 (-1)) (gm g) 4 0) (gm g) 5 0) 0 (((h_X7_lay (h_X7_lay (h_X7_lay (h_X7_lay (h_X7_lay (h_X7_lay g (gm g) 0 len) (gm g) 1 stay) (gm g) 2 1) (gm g) 3 (-1)) (gm g) 4 0) (gm g) 5 0) 0) + 1)) (gm g)).2) := (by rw [h_X7_comeOn])
  have hE2 := snd_of hE
  exact W.iret hx hb hr (fun t ht hW => ⟨by rw [fst_of hE], by rw [ht, hE2]; exact hP, hS.F ht⟩) hS.2.2 dX7_comeOn_60
