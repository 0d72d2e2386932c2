def RC (g : Rw) (c : Nat) : Prop := (∃ j, 2 ≤ j ∧ j ≤ 8 ∧ f_X7_of g c 0 = nI j) ∧ (f_X7_of g c 2 = 0 → ∃ x, f_X7_of g c 3 = nI x ∧ x + pj g c ≤ 80)
/-- what the reference's row always holds -/
def RI (g : Rw) : Prop := (∃ m, m ≤ 40 ∧ g 0 = nI m) ∧ (∃ r, r ≤ 4 ∧ g 3 = nI r) ∧ ∀ c, c < gm g → RC g c
theorem RI.m {g : Rw} (h : RI g) : g 0 = nI (gm g) ∧ gm g ≤ 40 := by
  obtain ⟨⟨m, hm, e⟩, -⟩ := h
  have e2 : gm g = m := by rw [gm, e, nI_clamp (by omega)]
  rw [e2]
  exact ⟨e, hm⟩
theorem RC_same {g g' : Rw} {c : Nat} (h : RC g c) (e0 : f_X7_of g' c 0 = f_X7_of g c 0) (e2 : f_X7_of g' c 2 = f_X7_of g c 2) (e3 : f_X7_of g' c 3 = f_X7_of g c 3) : RC g' c := by
  have ep : pj g' c = pj g c := by rw [pj, e0, pj]
  unfold RC
  rw [e0, e2, e3, ep]
  exact h
theorem RI_same {g g' : Rw} (h : RI g) (h0 : g' 0 = g 0) (h3 : g' 3 = g 3) (hc : ∀ c, c < gm g → RC g c → RC g' c) : RI g' := by
  obtain ⟨a, b, d⟩ := h
  have e : gm g' = gm g := by rw [gm, h0, gm]
  exact ⟨by rw [h0]; exact a, by rw [h3]; exact b, fun c hcm => hc c (by rw [← e]; exact hcm) (d c (by rw [← e]; exact hcm))⟩
theorem RI_lay {g : Rw} {c w : Nat} {v : Int32} (h : RI g) (hw : w < 6) (h0 : w ≠ 0) (h2 : w ≠ 2) (h3 : w ≠ 3) : RI (h_X7_lay g c w v) :=
  RI_same h (lay_lo g v (by omega)) (lay_lo g v (by omega)) fun d _ r => RC_same r (of_lay_ne g v hw (by omega) (Or.inr h0)) (of_lay_ne g v hw (by omega) (Or.inr h2)) (of_lay_ne g v hw (by omega) (Or.inr h3))
theorem RI_lay2 {g : Rw} {c : Nat} {v : Int32} (h : RI g) (hv : v ≠ 0) : RI (h_X7_lay g c 2 v) :=
  RI_same h (lay_lo g v (by omega)) (lay_lo g v (by omega)) fun d _ r => by
    by_cases e : d = c
    · subst e
      have e0 := of_lay_ne g (c := d) (d := d) (w := 2) (u := 0) v (by omega) (by omega) (Or.inr (by omega))
      refine ⟨by rw [e0]; exact r.1, fun z => ?_⟩
      rw [of_lay_eq] at z
      exact absurd z hv
    · exact RC_same r (of_lay_ne g v (by omega) (by omega) (Or.inl (Ne.symm e))) (of_lay_ne g v (by omega) (by omega) (Or.inl (Ne.symm e))) (of_lay_ne g v (by omega) (by omega) (Or.inl (Ne.symm e)))
theorem rFill_lo (x j : Nat) (v : Int32) (i : Nat) (hi : i < 7) : ∀ (n k : Nat) (g : Rw), lp_rFill x j v n k g i = g i := by
  intro n
  induction n with
  | zero => intro k g; rfl
  | succ n ih =>
    intro k g
    rw [lp_rFill]
    split
    · rfl
    · rw [ih, pk_un (by omega)]
theorem fill_lo (g : Rw) (x j : Nat) (v : Int32) {i : Nat} (hi : i < 7) : h_X7_fill g x j v i = g i := rFill_lo x j v i hi _ _ _
theorem RI_fill {g : Rw} {x j : Nat} {v : Int32} (h : RI g) (hx : x + j ≤ 80) : RI (h_X7_fill g x j v) :=
  RI_same h (fill_lo g x j v (by omega)) (fill_lo g x j v (by omega)) fun d _ r => RC_same r (of_fill g v hx d 0) (of_fill g v hx d 2) (of_fill g v hx d 3)
/-- state and place of one car anew -/
theorem RI_two {g : Rw} {c : Nat} {v u : Int32} (h : RI g) (hk : v = 0 → ∃ x, u = nI x ∧ x + pj g c ≤ 80) : RI (h_X7_lay (h_X7_lay g c 3 u) c 2 v) :=
  RI_same h ((lay_lo _ v (by omega)).trans (lay_lo g u (by omega))) ((lay_lo _ v (by omega)).trans (lay_lo g u (by omega))) fun d _ r => by
    have f0 : f_X7_of (h_X7_lay (h_X7_lay g c 3 u) c 2 v) d 0 = f_X7_of g d 0 := by rw [of_lay_ne _ _ (by omega) (by omega) (Or.inr (by omega)), of_lay_ne _ _ (by omega) (by omega) (Or.inr (by omega))]
    by_cases e : d = c
    · subst e
      have ep : pj (h_X7_lay (h_X7_lay g d 3 u) d 2 v) d = pj g d := by rw [pj, f0, pj]
      refine ⟨by rw [f0]; exact r.1, fun z => ?_⟩
      rw [of_lay_eq] at z
      rw [of_lay_ne _ _ (by omega) (by omega) (Or.inr (by omega)), of_lay_eq, ep]
      exact hk z
    · refine RC_same r f0 ?_ ?_
      · rw [of_lay_ne _ _ (by omega) (by omega) (Or.inl (Ne.symm e)), of_lay_ne _ _ (by omega) (by omega) (Or.inl (Ne.symm e))]
      · rw [of_lay_ne _ _ (by omega) (by omega) (Or.inl (Ne.symm e)), of_lay_ne _ _ (by omega) (by omega) (Or.inl (Ne.symm e))]
theorem RI.J {g : Rw} (h : RI g) {c : Nat} (hc : c < gm g) : f_X7_of g c 0 = nI (pj g c) ∧ pj g c ≤ 8 ∧ 2 ≤ pj g c := by
  obtain ⟨⟨j, h2, h8, e⟩, -⟩ := h.2.2 c hc
  have q := pj_self e h8
  exact ⟨q.1, by rw [q.2]; exact h8, by rw [q.2]; exact h2⟩
theorem RI.X {g : Rw} (h : RI g) {c : Nat} (hc : c < gm g) (hp : f_X7_of g c 2 = 0) : f_X7_of g c 3 = nI (px g c) ∧ f_X7_of g c 0 = nI (pj g c) ∧ px g c + pj g c ≤ 80 := by
  obtain ⟨x, e, hx⟩ := (h.2.2 c hc).2 hp
  have q := px_self e (by omega)
  exact ⟨q.1, (h.J hc).1, by rw [q.2]; exact hx⟩
theorem gm_lay (g : Rw) (c w : Nat) (v : Int32) : gm (h_X7_lay g c w v) = gm g := by rw [gm, lay_lo _ _ (by omega), gm]
theorem RI_goes {g : Rw} (h : RI g) {c : Nat} {sta : Int32} (hx : px g c + pj g c ≤ 80) (hs : sta ≠ 0) : RI (h_X7_goes g c sta).2 := by
  rw [h_X7_goes]
  exact RI_two (RI_fill h hx) fun z => absurd z hs
theorem goes_lo (g : Rw) (c : Nat) (sta : Int32) {i : Nat} (hi : i < 7) : (h_X7_goes g c sta).2 i = g i := by
  rw [h_X7_goes]
  show h_X7_lay _ _ _ _ i = _
  rw [lay_lo _ _ (by omega), lay_lo _ _ (by omega), fill_lo _ _ _ _ hi]
theorem RI_place {g : Rw} (h : RI g) (len : Int32) : RI (h_X7_placeFor g len).2 :=
  RI_same h (place_g g len (by omega) (by omega)) (place_g g len (by omega) (by omega)) fun d _ r => RC_same r (of_place g len d 0) (of_place g len d 2) (of_place g len d 3)
theorem RI_parks {g : Rw} (h : RI g) {c : Nat} (hc : c < gm g) : RI (h_X7_parks g c).2 := by
  have q := h.J hc
  rw [h_X7_parks]
  by_cases c1 : (h_X7_placeFor g (nI (pj g c))).1 = -1
  · rw [if_pos c1]
    repeat' split
    all_goals exact RI_place h _
  · have p := pl_n (place_okE q.2.1 h.2.1) c1
    have r : RI (h_X7_lay (h_X7_lay (h_X7_fill (h_X7_placeFor g (nI (pj g c))).2 ((h_X7_placeFor g (nI (pj g c))).1).toNatClampNeg (pj g c) (nI c)) c 3 (h_X7_placeFor g (nI (pj g c))).1) c 2 0) :=
      RI_two (RI_fill (RI_place h _) p.2) fun _ => ⟨_, p.1, by rw [show pj (h_X7_fill (h_X7_placeFor g (nI (pj g c))).2 ((h_X7_placeFor g (nI (pj g c))).1).toNatClampNeg (pj g c) (nI c)) c = pj g c by rw [pj, of_fill _ _ p.2, of_place, pj]]; exact p.2⟩
    rw [if_neg c1]
    repeat' split
    all_goals exact r
theorem parks_lo (g : Rw) (c : Nat) {i : Nat} (hi : i < 5) : (h_X7_parks g c).2 i = g i := by
  rw [h_X7_parks]
  repeat' split
  all_goals first | exact place_g g _ (by omega) (by omega) | (show h_X7_lay _ _ _ _ i = _; rw [lay_lo _ _ (by omega), lay_lo _ _ (by omega), fill_lo _ _ _ _ (by omega), place_g g _ (by omega) (by omega)])

def lp_rRound (g : Rw) : Nat → Int32 → Nat → Rw → Int32 × Rw
  | 0, acc, _, g2 => (acc, g2)
  | n + 1, acc, k, g2 => if (g2 0) ≤ (nI k) then (acc, g2) else
    if (f_X7_of g2 k 2) = 1 then (if ((h_X7_parks g2 k).1) = 0 then (if (f_X7_of (h_X7_lay ((h_X7_parks g2 k).2) k 5 ((f_X7_of ((h_X7_parks g2 k).2) k 5) + 1)) k 5) < ((h_X7_lay ((h_X7_parks g2 k).2) k 5 ((f_X7_of ((h_X7_parks g2 k).2) k 5) + 1)) 4) then lp_rRound g n acc (k + 1) (h_X7_lay (h_X7_lay ((h_X7_parks g2 k).2) k 5 ((f_X7_of ((h_X7_parks g2 k).2) k 5) + 1)) k 2 1) else
        lp_rRound g n acc (k + 1) (h_X7_lay (h_X7_lay ((h_X7_parks g2 k).2) k 5 ((f_X7_of ((h_X7_parks g2 k).2) k 5) + 1)) k 2 3)) else
      lp_rRound g n (acc + 1) (k + 1) ((h_X7_parks g2 k).2)) else
    lp_rRound g n acc (k + 1) g2
def lp_rLeave (g : Rw) : Nat → Nat → Rw → Int32 × Rw
  | 0, _, g2 => (0, g2)
  | n + 1, k, g2 => if (g2 0) ≤ (nI k) then lp_rRound g ((g 0).toNatClampNeg + 1) 0 0 g2 else
    if (f_X7_of g2 k 2) = 0 then (if (f_X7_of (h_X7_lay g2 k 4 ((f_X7_of g2 k 4) + 1)) k 4) < (f_X7_of (h_X7_lay g2 k 4 ((f_X7_of g2 k 4) + 1)) k 1) then lp_rLeave g n (k + 1) (h_X7_lay g2 k 4 ((f_X7_of g2 k 4) + 1)) else
      lp_rLeave g n (k + 1) ((h_X7_goes (h_X7_lay g2 k 4 ((f_X7_of g2 k 4) + 1)) k 2).2)) else
    lp_rLeave g n (k + 1) g2
def h_X7_minute (g : Rw) : Int32 × Rw :=
  lp_rLeave g ((g 0).toNatClampNeg + 1) 0 (upd g 1 ((g 1) + 1))
set_option maxHeartbeats 4000000 in
set_option maxRecDepth 100000 in
theorem c_X7_minute (l : Launch) (G : GG) (a : Nat) (g : Rw) (hRI0 : RI g) : Met l yX7_minute wsX7_minute ({ frames := 5, cells := 0, slots := 0, locals := 113 }) (PcH G [.ref a] (Arr G 0 a 327 g)) (QM (some (.int ((h_X7_minute g).1))) (Arr G 0 a 327 ((h_X7_minute g).2)) (one a)) 0 0 (one a) := by
  refine metH (cc := cX7_minute) (maxL := 3) (ret := (some .int)) (by decide) rfl ?_
  intro p e s m below meth cd hx hb hr hml hown hts hlocks hP hO
  have hA : ∀ q, (one a) q → (one a) q := fun _ h => h
  have hS : va_S (one a) s.heap s.heap [] := va_S.rf
  have hl := lv_entry ([.ref a]) (n := 3) (Nat.le_of_ble_eq_true rfl)
  rw [lg_entry_eq]
  generalize (lg_sl ([.ref a]) ++ List.replicate (3 - (lg_sl ([.ref a])).length) Slot.unset).toArray = ls at hl ⊢
  have hl : lv_has ls 3 [(0, .ref a)] := hl
  have loop71 : ∀ (n : Nat) (acc : Int32) (k : Nat) (g2 : Rw), k ≤ (g 0).toNatClampNeg → k + n = (g 0).toNatClampNeg + 1 → g2 0 = g 0 → RI g2 → h_X7_minute g = lp_rRound g n acc k g2 → ∀ (H : Heap) (locs : List Loc) (ls : Array Slot), Arr G 0 a 327 g2 H → va_S (one a) s.heap H locs → lv_has ls 3 [(0, .ref a), (1, .int acc), (2, .int (nI k))] → W p l e (headSpec wsX7_minute ({ frames := 5, cells := 0, slots := 0, locals := 113 } : Room)).room s m ([.ref a] : List Value).toArray below meth cd H locs 0 0 (MQ below (QM (some (.int ((h_X7_minute g).1))) (Arr G 0 a 327 ((h_X7_minute g).2)) (one a)) ([.ref a] : List Value).toArray s 0 0 (one a)) (F0 m 71 ls []) := by
    intro n
    induction n with
    | zero =>
      intro acc k g2 hk hn hN hRI hR H locs ls hP hS hl
      exact absurd hn (by omega)
    | succ n ih =>
      intro acc k g2 hk hn hN hRI hR H locs ls hP hS hl
      refine lv_iload_n hx hb dX7_minute_71 rfl (lv_at hl 2 rfl) ?_
      refine lv_aload_n hx hb dX7_minute_72 rfl (lv_at hl 0 rfl) ?_
      refine lv_iconst (v := 0) hx hb dX7_minute_73 (by decide) ?_
      refine iald_n (k := 0) hx hb hO.1 hP 0 0 rfl rfl (by omega) (by decide) dX7_minute_74 ?_
      refine lv_icmp_ge (tgt := 145) hx hb dX7_minute_75 (by decide) (fun c_1 => ?_) (fun c_1 => ?_)
      · refine lv_iload_n hx hb dX7_minute_145 rfl (lv_at hl 1 rfl) ?_
        have hE : h_X7_minute g = (acc, g2) := (hR.trans (by rw [lp_rRound, if_pos c_1]))
        have hE2 := snd_of hE
        exact W.iret hx hb hr (fun t ht hW => ⟨by rw [fst_of hE], by rw [ht, hE2]; exact hP, hS.F ht⟩) hS.2.2 dX7_minute_146
      · have hlt : k < (g 0).toNatClampNeg ∧ k < 40 := (by have h8 := clamp_lt (g 0); have h9 := kV (y := g 0) (k := k) (by rw [← hN]; exact c_1) (by omega); have h7 := hRI.m.2; rw [gm, hN] at h7; exact ⟨h9, by omega⟩)
        refine lv_aload_n hx hb dX7_minute_78 rfl (lv_at hl 0 rfl) ?_
        refine lv_iload_n hx hb dX7_minute_79 rfl (lv_at hl 2 rfl) ?_
        refine lv_iconst (v := 2) hx hb dX7_minute_80 (by decide) ?_
        refine cl_pi (rS (As := [.ref a, .int (nI k), .int 2]) (rest := []) ⟨hx, hb, hml, hown, hts⟩ (c_X7_of l G a g2 k 2 (by omega)) (va_cwS 3 hts gX7_minute_X7_of rfl rfl rfl (by decide +kernel) ⟨Nat.le_of_ble_eq_true rfl, Nat.le_of_ble_eq_true rfl⟩) hP hO rfl hl.1 (Nat.le_of_ble_eq_true rfl) dX7_minute_81 ⟨Nat.le_of_ble_eq_true rfl, Nat.le_of_ble_eq_true rfl⟩) ?_
        refine lv_iconst (v := 1) hx hb dX7_minute_84 (by decide) ?_
        refine lv_icmp_ne (tgt := 139) hx hb dX7_minute_85 (by decide) (fun c_2 => ?_) (fun c_2 => ?_)
        · refine lv_iinc (v := nI (k + 1)) (lv' := [(2, .int (nI (k + 1))), (0, .ref a), (1, .int acc)]) hx hb dX7_minute_139 hl (k := 2) rfl (nI_1 _) (by decide) rfl (fun ls hl => ?_)
          refine lv_goto (tgt := 71) hx hb dX7_minute_142 (by decide) ?_
          have hE_3 : h_X7_minute g = lp_rRound g n acc (k + 1) g2 := (hR.trans (by rw [lp_rRound, if_neg c_1, if_neg c_2]))
          exact ih acc (k + 1) g2 (by omega) (by omega) hN hRI hE_3 _ _ _ hP hS (lv_sub hl [1, 2, 0] rfl)
        · refine lv_aload_n hx hb dX7_minute_88 rfl (lv_at hl 0 rfl) ?_
          refine lv_iload_n hx hb dX7_minute_89 rfl (lv_at hl 2 rfl) ?_
          refine cl_mi (rS (As := [.ref a, .int (nI k)]) (rest := []) ⟨hx, hb, hml, hown, hts⟩ (c_X7_parks l G a g2 k hlt.2 (hRI.J (by rw [gm, hN]; exact hlt.1)).1 (hRI.J (by rw [gm, hN]; exact hlt.1)).2.1 hRI.2.1) (va_cwS 2 hts gX7_minute_X7_parks rfl rfl rfl (by decide +kernel) ⟨Nat.le_of_ble_eq_true rfl, Nat.le_of_ble_eq_true rfl⟩) hP hO rfl hl.1 (Nat.le_of_ble_eq_true rfl) dX7_minute_90 ⟨Nat.le_of_ble_eq_true rfl, Nat.le_of_ble_eq_true rfl⟩) hS hA (fun H locs hP1 hz hk hS => ?_)
          have hP : Arr G 0 a 327 ((h_X7_parks g2 k).2) H := hP1
          refine lv_if_eq (tgt := 102) hx hb dX7_minute_93 (by decide) (fun c_4 => ?_) (fun c_4 => ?_)
          · refine lv_aload_n hx hb dX7_minute_102 rfl (lv_at hl 0 rfl) ?_
            refine lv_iload_n hx hb dX7_minute_103 rfl (lv_at hl 2 rfl) ?_
            refine lv_iconst (v := 5) hx hb dX7_minute_104 (by decide) ?_
            refine lv_aload_n hx hb dX7_minute_105 rfl (lv_at hl 0 rfl) ?_
            refine lv_iload_n hx hb dX7_minute_106 rfl (lv_at hl 2 rfl) ?_
            refine lv_iconst (v := 5) hx hb dX7_minute_107 (by decide) ?_
            refine cl_pi (rS (As := [.ref a, .int (nI k), .int 5]) (rest := [.int 5, .int (nI k), .ref a]) ⟨hx, hb, hml, hown, hts⟩ (c_X7_of l G a ((h_X7_parks g2 k).2) k 5 (by omega)) (va_cwS 3 hts gX7_minute_X7_of rfl rfl rfl (by decide +kernel) ⟨Nat.le_of_ble_eq_true rfl, Nat.le_of_ble_eq_true rfl⟩) hP hO rfl hl.1 (Nat.le_of_ble_eq_true rfl) dX7_minute_108 ⟨Nat.le_of_ble_eq_true rfl, Nat.le_of_ble_eq_true rfl⟩) ?_
            refine lv_iconst (v := 1) hx hb dX7_minute_111 (by decide) ?_
            refine lv_iadd hx hb dX7_minute_112 ?_
            refine cl_mv (rS (As := [.ref a, .int (nI k), .int 5, .int ((f_X7_of ((h_X7_parks g2 k).2) k 5) + 1)]) (rest := []) ⟨hx, hb, hml, hown, hts⟩ (c_X7_lay l G a ((h_X7_parks g2 k).2) k 5 ((f_X7_of ((h_X7_parks g2 k).2) k 5) + 1) (by omega)) (va_cwS 4 hts gX7_minute_X7_lay rfl rfl rfl (by decide +kernel) ⟨Nat.le_of_ble_eq_true rfl, Nat.le_of_ble_eq_true rfl⟩) hP hO rfl hl.1 (Nat.le_of_ble_eq_true rfl) dX7_minute_113 ⟨Nat.le_of_ble_eq_true rfl, Nat.le_of_ble_eq_true rfl⟩) hS hA (fun H locs hP1 hz hk hS => ?_)
            have hP : Arr G 0 a 327 (h_X7_lay ((h_X7_parks g2 k).2) k 5 ((f_X7_of ((h_X7_parks g2 k).2) k 5) + 1)) H := hP1
            refine lv_aload_n hx hb dX7_minute_116 rfl (lv_at hl 0 rfl) ?_
            refine lv_iload_n hx hb dX7_minute_117 rfl (lv_at hl 2 rfl) ?_
            refine lv_iconst (v := 2) hx hb dX7_minute_118 (by decide) ?_
            refine lv_aload_n hx hb dX7_minute_119 rfl (lv_at hl 0 rfl) ?_
            refine lv_iload_n hx hb dX7_minute_120 rfl (lv_at hl 2 rfl) ?_
            refine lv_iconst (v := 5) hx hb dX7_minute_121 (by decide) ?_
            refine cl_pi (rS (As := [.ref a, .int (nI k), .int 5]) (rest := [.int 2, .int (nI k), .ref a]) ⟨hx, hb, hml, hown, hts⟩ (c_X7_of l G a (h_X7_lay ((h_X7_parks g2 k).2) k 5 ((f_X7_of ((h_X7_parks g2 k).2) k 5) + 1)) k 5 (by omega)) (va_cwS 3 hts gX7_minute_X7_of rfl rfl rfl (by decide +kernel) ⟨Nat.le_of_ble_eq_true rfl, Nat.le_of_ble_eq_true rfl⟩) hP hO rfl hl.1 (Nat.le_of_ble_eq_true rfl) dX7_minute_122 ⟨Nat.le_of_ble_eq_true rfl, Nat.le_of_ble_eq_true rfl⟩) ?_
            refine lv_aload_n hx hb dX7_minute_125 rfl (lv_at hl 0 rfl) ?_
            refine lv_iconst (v := 4) hx hb dX7_minute_126 (by decide) ?_
            refine iald_n (k := 4) hx hb hO.1 hP 0 0 rfl rfl (by omega) (by decide) dX7_minute_127 ?_
            refine lv_icmp_lt (tgt := 135) hx hb dX7_minute_128 (by decide) (fun c_5 => ?_) (fun c_5 => ?_)
            · refine lv_iconst (v := 1) hx hb dX7_minute_135 (by decide) ?_
              refine cl_mv (rS (As := [.ref a, .int (nI k), .int 2, .int 1]) (rest := []) ⟨hx, hb, hml, hown, hts⟩ (c_X7_lay l G a (h_X7_lay ((h_X7_parks g2 k).2) k 5 ((f_X7_of ((h_X7_parks g2 k).2) k 5) + 1)) k 2 1 (by omega)) (va_cwS 4 hts gX7_minute_X7_lay rfl rfl rfl (by decide +kernel) ⟨Nat.le_of_ble_eq_true rfl, Nat.le_of_ble_eq_true rfl⟩) hP hO rfl hl.1 (Nat.le_of_ble_eq_true rfl) dX7_minute_136 ⟨Nat.le_of_ble_eq_true rfl, Nat.le_of_ble_eq_true rfl⟩) hS hA (fun H locs hP1 hz hk hS => ?_)
              have hP : Arr G 0 a 327 (h_X7_lay (h_X7_lay ((h_X7_parks g2 k).2) k 5 ((f_X7_of ((h_X7_parks g2 k).2) k 5) + 1)) k 2 1) H := hP1
              refine lv_iinc (v := nI (k + 1)) (lv' := [(2, .int (nI (k + 1))), (0, .ref a), (1, .int acc)]) hx hb dX7_minute_139 hl (k := 2) rfl (nI_1 _) (by decide) rfl (fun ls hl => ?_)
              refine lv_goto (tgt := 71) hx hb dX7_minute_142 (by decide) ?_
              have hE_6 : h_X7_minute g = lp_rRound g n acc (k + 1) (h_X7_lay (h_X7_lay ((h_X7_parks g2 k).2) k 5 ((f_X7_of ((h_X7_parks g2 k).2) k 5) + 1)) k 2 1) := (hR.trans (by rw [lp_rRound, if_neg c_1, if_pos c_2, if_pos c_4, if_pos c_5]))
              exact ih acc (k + 1) (h_X7_lay (h_X7_lay ((h_X7_parks g2 k).2) k 5 ((f_X7_of ((h_X7_parks g2 k).2) k 5) + 1)) k 2 1) (by omega) (by omega) ((lay_lo _ _ (by omega)).trans ((lay_lo _ _ (by omega)).trans ((parks_lo _ _ (by omega)).trans hN))) (RI_lay2 (RI_lay (RI_parks hRI (by rw [gm, hN]; exact hlt.1)) (by omega) (by omega) (by omega) (by omega)) (by decide)) hE_6 _ _ _ hP hS (lv_sub hl [1, 2, 0] rfl)
            · refine lv_iconst (v := 3) hx hb dX7_minute_131 (by decide) ?_
              refine lv_goto (tgt := 136) hx hb dX7_minute_132 (by decide) ?_
              refine cl_mv (rS (As := [.ref a, .int (nI k), .int 2, .int 3]) (rest := []) ⟨hx, hb, hml, hown, hts⟩ (c_X7_lay l G a (h_X7_lay ((h_X7_parks g2 k).2) k 5 ((f_X7_of ((h_X7_parks g2 k).2) k 5) + 1)) k 2 3 (by omega)) (va_cwS 4 hts gX7_minute_X7_lay rfl rfl rfl (by decide +kernel) ⟨Nat.le_of_ble_eq_true rfl, Nat.le_of_ble_eq_true rfl⟩) hP hO rfl hl.1 (Nat.le_of_ble_eq_true rfl) dX7_minute_136 ⟨Nat.le_of_ble_eq_true rfl, Nat.le_of_ble_eq_true rfl⟩) hS hA (fun H locs hP1 hz hk hS => ?_)
              have hP : Arr G 0 a 327 (h_X7_lay (h_X7_lay ((h_X7_parks g2 k).2) k 5 ((f_X7_of ((h_X7_parks g2 k).2) k 5) + 1)) k 2 3) H := hP1
              refine lv_iinc (v := nI (k + 1)) (lv' := [(2, .int (nI (k + 1))), (0, .ref a), (1, .int acc)]) hx hb dX7_minute_139 hl (k := 2) rfl (nI_1 _) (by decide) rfl (fun ls hl => ?_)
              refine lv_goto (tgt := 71) hx hb dX7_minute_142 (by decide) ?_
              have hE_7 : h_X7_minute g = lp_rRound g n acc (k + 1) (h_X7_lay (h_X7_lay ((h_X7_parks g2 k).2) k 5 ((f_X7_of ((h_X7_parks g2 k).2) k 5) + 1)) k 2 3) := (hR.trans (by rw [lp_rRound, if_neg c_1, if_pos c_2, if_pos c_4, if_neg c_5]))
              exact ih acc (k + 1) (h_X7_lay (h_X7_lay ((h_X7_parks g2 k).2) k 5 ((f_X7_of ((h_X7_parks g2 k).2) k 5) + 1)) k 2 3) (by omega) (by omega) ((lay_lo _ _ (by omega)).trans ((lay_lo _ _ (by omega)).trans ((parks_lo _ _ (by omega)).trans hN))) (RI_lay2 (RI_lay (RI_parks hRI (by rw [gm, hN]; exact hlt.1)) (by omega) (by omega) (by omega) (by omega)) (by decide)) hE_7 _ _ _ hP hS (lv_sub hl [1, 2, 0] rfl)
          · refine lv_iinc (v := acc + 1) (lv' := [(1, .int (acc + 1)), (0, .ref a), (2, .int (nI k))]) hx hb dX7_minute_96 hl (k := 1) rfl rfl (by decide) rfl (fun ls hl => ?_)
            refine lv_goto (tgt := 139) hx hb dX7_minute_99 (by decide) ?_
            refine lv_iinc (v := nI (k + 1)) (lv' := [(2, .int (nI (k + 1))), (1, .int (acc + 1)), (0, .ref a)]) hx hb dX7_minute_139 hl (k := 2) rfl (nI_1 _) (by decide) rfl (fun ls hl => ?_)
            refine lv_goto (tgt := 71) hx hb dX7_minute_142 (by decide) ?_
            have hE_8 : h_X7_minute g = lp_rRound g n (acc + 1) (k + 1) ((h_X7_parks g2 k).2) := (hR.trans (by rw [lp_rRound, if_neg c_1, if_pos c_2, if_neg c_4]))
            exact ih (acc + 1) (k + 1) ((h_X7_parks g2 k).2) (by omega) (by omega) ((parks_lo _ _ (by omega)).trans hN) (RI_parks hRI (by rw [gm, hN]; exact hlt.1)) hE_8 _ _ _ hP hS (lv_sub hl [2, 1, 0] rfl)
  have loop9 : ∀ (n : Nat) (k : Nat) (g2 : Rw), k ≤ (g 0).toNatClampNeg → k + n = (g 0).toNatClampNeg + 1 → g2 0 = g 0 → RI g2 → h_X7_minute g = lp_rLeave g n k g2 → ∀ (H : Heap) (locs : List Loc) (ls : Array Slot), Arr G 0 a 327 g2 H → va_S (one a) s.heap H locs → lv_has ls 3 [(0, .ref a), (1, .int (nI k))] → W p l e (headSpec wsX7_minute ({ frames := 5, cells := 0, slots := 0, locals := 113 } : Room)).room s m ([.ref a] : List Value).toArray below meth cd H locs 0 0 (MQ below (QM (some (.int ((h_X7_minute g).1))) (Arr G 0 a 327 ((h_X7_minute g).2)) (one a)) ([.ref a] : List Value).toArray s 0 0 (one a)) (F0 m 9 ls []) := by
    intro n
    induction n with
    | zero =>
      intro k g2 hk hn hN hRI hR H locs ls hP hS hl
      exact absurd hn (by omega)
    | succ n ih =>
      intro k g2 hk hn hN hRI hR H locs ls hP hS hl
      refine lv_iload_n hx hb dX7_minute_9 rfl (lv_at hl 1 rfl) ?_
      refine lv_aload_n hx hb dX7_minute_10 rfl (lv_at hl 0 rfl) ?_
      refine lv_iconst (v := 0) hx hb dX7_minute_11 (by decide) ?_
      refine iald_n (k := 0) hx hb hO.1 hP 0 0 rfl rfl (by omega) (by decide) dX7_minute_12 ?_
      refine lv_icmp_ge (tgt := 67) hx hb dX7_minute_13 (by decide) (fun c_9 => ?_) (fun c_9 => ?_)
      · refine lv_iconst (v := 0) hx hb dX7_minute_67 (by decide) ?_
        refine lv_istore_n (lv' := [(1, .int 0), (0, .ref a)]) hx hb dX7_minute_68 rfl hl (by decide) rfl (fun ls hl => ?_)
        refine lv_iconst (v := 0) hx hb dX7_minute_69 (by decide) ?_
        refine lv_istore_n (lv' := [(2, .int 0), (1, .int 0), (0, .ref a)]) hx hb dX7_minute_70 rfl hl (by decide) rfl (fun ls hl => ?_)
        have hE_10 : h_X7_minute g = lp_rRound g ((g 0).toNatClampNeg + 1) 0 0 g2 := (hR.trans (by rw [lp_rLeave, if_pos c_9]))
        exact loop71 ((g 0).toNatClampNeg + 1) 0 0 g2 (Nat.zero_le _) (by omega) hN hRI hE_10 _ _ _ hP hS (lv_sub hl [2, 1, 0] rfl)
      · have hlt : k < (g 0).toNatClampNeg ∧ k < 40 := (by have h8 := clamp_lt (g 0); have h9 := kV (y := g 0) (k := k) (by rw [← hN]; exact c_9) (by omega); have h7 := hRI.m.2; rw [gm, hN] at h7; exact ⟨h9, by omega⟩)
        refine lv_aload_n hx hb dX7_minute_16 rfl (lv_at hl 0 rfl) ?_
        refine lv_iload_n hx hb dX7_minute_17 rfl (lv_at hl 1 rfl) ?_
        refine lv_iconst (v := 2) hx hb dX7_minute_18 (by decide) ?_
        refine cl_pi (rS (As := [.ref a, .int (nI k), .int 2]) (rest := []) ⟨hx, hb, hml, hown, hts⟩ (c_X7_of l G a g2 k 2 (by omega)) (va_cwS 3 hts gX7_minute_X7_of rfl rfl rfl (by decide +kernel) ⟨Nat.le_of_ble_eq_true rfl, Nat.le_of_ble_eq_true rfl⟩) hP hO rfl hl.1 (Nat.le_of_ble_eq_true rfl) dX7_minute_19 ⟨Nat.le_of_ble_eq_true rfl, Nat.le_of_ble_eq_true rfl⟩) ?_
        refine lv_if_ne (tgt := 61) hx hb dX7_minute_22 (by decide) (fun c_11 => ?_) (fun c_11 => ?_)
        · refine lv_iinc (v := nI (k + 1)) (lv' := [(1, .int (nI (k + 1))), (0, .ref a)]) hx hb dX7_minute_61 hl (k := 1) rfl (nI_1 _) (by decide) rfl (fun ls hl => ?_)
          refine lv_goto (tgt := 9) hx hb dX7_minute_64 (by decide) ?_
          have hE_12 : h_X7_minute g = lp_rLeave g n (k + 1) g2 := (hR.trans (by rw [lp_rLeave, if_neg c_9, if_neg c_11]))
          exact ih (k + 1) g2 (by omega) (by omega) hN hRI hE_12 _ _ _ hP hS (lv_sub hl [1, 0] rfl)
        · refine lv_aload_n hx hb dX7_minute_25 rfl (lv_at hl 0 rfl) ?_
          refine lv_iload_n hx hb dX7_minute_26 rfl (lv_at hl 1 rfl) ?_
          refine lv_iconst (v := 4) hx hb dX7_minute_27 (by decide) ?_
          refine lv_aload_n hx hb dX7_minute_28 rfl (lv_at hl 0 rfl) ?_
          refine lv_iload_n hx hb dX7_minute_29 rfl (lv_at hl 1 rfl) ?_
          refine lv_iconst (v := 4) hx hb dX7_minute_30 (by decide) ?_
          refine cl_pi (rS (As := [.ref a, .int (nI k), .int 4]) (rest := [.int 4, .int (nI k), .ref a]) ⟨hx, hb, hml, hown, hts⟩ (c_X7_of l G a g2 k 4 (by omega)) (va_cwS 3 hts gX7_minute_X7_of rfl rfl rfl (by decide +kernel) ⟨Nat.le_of_ble_eq_true rfl, Nat.le_of_ble_eq_true rfl⟩) hP hO rfl hl.1 (Nat.le_of_ble_eq_true rfl) dX7_minute_31 ⟨Nat.le_of_ble_eq_true rfl, Nat.le_of_ble_eq_true rfl⟩) ?_
          refine lv_iconst (v := 1) hx hb dX7_minute_34 (by decide) ?_
          refine lv_iadd hx hb dX7_minute_35 ?_
          refine cl_mv (rS (As := [.ref a, .int (nI k), .int 4, .int ((f_X7_of g2 k 4) + 1)]) (rest := []) ⟨hx, hb, hml, hown, hts⟩ (c_X7_lay l G a g2 k 4 ((f_X7_of g2 k 4) + 1) (by omega)) (va_cwS 4 hts gX7_minute_X7_lay rfl rfl rfl (by decide +kernel) ⟨Nat.le_of_ble_eq_true rfl, Nat.le_of_ble_eq_true rfl⟩) hP hO rfl hl.1 (Nat.le_of_ble_eq_true rfl) dX7_minute_36 ⟨Nat.le_of_ble_eq_true rfl, Nat.le_of_ble_eq_true rfl⟩) hS hA (fun H locs hP1 hz hk hS => ?_)
          have hP : Arr G 0 a 327 (h_X7_lay g2 k 4 ((f_X7_of g2 k 4) + 1)) H := hP1
          refine lv_aload_n hx hb dX7_minute_39 rfl (lv_at hl 0 rfl) ?_
          refine lv_iload_n hx hb dX7_minute_40 rfl (lv_at hl 1 rfl) ?_
          refine lv_iconst (v := 4) hx hb dX7_minute_41 (by decide) ?_
          refine cl_pi (rS (As := [.ref a, .int (nI k), .int 4]) (rest := []) ⟨hx, hb, hml, hown, hts⟩ (c_X7_of l G a (h_X7_lay g2 k 4 ((f_X7_of g2 k 4) + 1)) k 4 (by omega)) (va_cwS 3 hts gX7_minute_X7_of rfl rfl rfl (by decide +kernel) ⟨Nat.le_of_ble_eq_true rfl, Nat.le_of_ble_eq_true rfl⟩) hP hO rfl hl.1 (Nat.le_of_ble_eq_true rfl) dX7_minute_42 ⟨Nat.le_of_ble_eq_true rfl, Nat.le_of_ble_eq_true rfl⟩) ?_
          refine lv_aload_n hx hb dX7_minute_45 rfl (lv_at hl 0 rfl) ?_
          refine lv_iload_n hx hb dX7_minute_46 rfl (lv_at hl 1 rfl) ?_
          refine lv_iconst (v := 1) hx hb dX7_minute_47 (by decide) ?_
          refine cl_pi (rS (As := [.ref a, .int (nI k), .int 1]) (rest := [.int (f_X7_of (h_X7_lay g2 k 4 ((f_X7_of g2 k 4) + 1)) k 4)]) ⟨hx, hb, hml, hown, hts⟩ (c_X7_of l G a (h_X7_lay g2 k 4 ((f_X7_of g2 k 4) + 1)) k 1 (by omega)) (va_cwS 3 hts gX7_minute_X7_of rfl rfl rfl (by decide +kernel) ⟨Nat.le_of_ble_eq_true rfl, Nat.le_of_ble_eq_true rfl⟩) hP hO rfl hl.1 (Nat.le_of_ble_eq_true rfl) dX7_minute_48 ⟨Nat.le_of_ble_eq_true rfl, Nat.le_of_ble_eq_true rfl⟩) ?_
          refine lv_icmp_lt (tgt := 61) hx hb dX7_minute_51 (by decide) (fun c_13 => ?_) (fun c_13 => ?_)
          · refine lv_iinc (v := nI (k + 1)) (lv' := [(1, .int (nI (k + 1))), (0, .ref a)]) hx hb dX7_minute_61 hl (k := 1) rfl (nI_1 _) (by decide) rfl (fun ls hl => ?_)
            refine lv_goto (tgt := 9) hx hb dX7_minute_64 (by decide) ?_
            have hE_14 : h_X7_minute g = lp_rLeave g n (k + 1) (h_X7_lay g2 k 4 ((f_X7_of g2 k 4) + 1)) := (hR.trans (by rw [lp_rLeave, if_neg c_9, if_pos c_11, if_pos c_13]))
            exact ih (k + 1) (h_X7_lay g2 k 4 ((f_X7_of g2 k 4) + 1)) (by omega) (by omega) ((lay_lo _ _ (by omega)).trans hN) (RI_lay hRI (by omega) (by omega) (by omega) (by omega)) hE_14 _ _ _ hP hS (lv_sub hl [1, 0] rfl)
          · refine lv_aload_n hx hb dX7_minute_54 rfl (lv_at hl 0 rfl) ?_
            refine lv_iload_n hx hb dX7_minute_55 rfl (lv_at hl 1 rfl) ?_
            refine lv_iconst (v := 2) hx hb dX7_minute_56 (by decide) ?_
            refine cl_mi (rS (As := [.ref a, .int (nI k), .int 2]) (rest := []) ⟨hx, hb, hml, hown, hts⟩ (c_X7_goes l G a (h_X7_lay g2 k 4 ((f_X7_of g2 k 4) + 1)) k 2 hlt.2 (RI.X (RI_lay (w := 4) (c := k) hRI (by omega) (by omega) (by omega) (by omega)) (by rw [gm_lay, gm, hN]; exact hlt.1) ((of_lay_ne _ _ (by omega) (by omega) (Or.inr (by omega))).trans (by assumption))).1 (RI.X (RI_lay (w := 4) (c := k) hRI (by omega) (by omega) (by omega) (by omega)) (by rw [gm_lay, gm, hN]; exact hlt.1) ((of_lay_ne _ _ (by omega) (by omega) (Or.inr (by omega))).trans (by assumption))).2.1 (RI.X (RI_lay (w := 4) (c := k) hRI (by omega) (by omega) (by omega) (by omega)) (by rw [gm_lay, gm, hN]; exact hlt.1) ((of_lay_ne _ _ (by omega) (by omega) (Or.inr (by omega))).trans (by assumption))).2.2) (va_cwS 3 hts gX7_minute_X7_goes rfl rfl rfl (by decide +kernel) ⟨Nat.le_of_ble_eq_true rfl, Nat.le_of_ble_eq_true rfl⟩) hP hO rfl hl.1 (Nat.le_of_ble_eq_true rfl) dX7_minute_57 ⟨Nat.le_of_ble_eq_true rfl, Nat.le_of_ble_eq_true rfl⟩) hS hA (fun H locs hP1 hz hk hS => ?_)
            have hP : Arr G 0 a 327 ((h_X7_goes (h_X7_lay g2 k 4 ((f_X7_of g2 k 4) + 1)) k 2).2) H := hP1
            refine lv_pop hx hb dX7_minute_60 rfl ?_
            refine lv_iinc (v := nI (k + 1)) (lv' := [(1, .int (nI (k + 1))), (0, .ref a)]) hx hb dX7_minute_61 hl (k := 1) rfl (nI_1 _) (by decide) rfl (fun ls hl => ?_)
            refine lv_goto (tgt := 9) hx hb dX7_minute_64 (by decide) ?_
            have hE_15 : h_X7_minute g = lp_rLeave g n (k + 1) ((h_X7_goes (h_X7_lay g2 k 4 ((f_X7_of g2 k 4) + 1)) k 2).2) := (hR.trans (by rw [lp_rLeave, if_neg c_9, if_pos c_11, if_neg c_13]))
            exact ih (k + 1) ((h_X7_goes (h_X7_lay g2 k 4 ((f_X7_of g2 k 4) + 1)) k 2).2) (by omega) (by omega) ((goes_lo _ _ _ (by omega)).trans ((lay_lo _ _ (by omega)).trans hN)) (RI_goes (RI_lay hRI (by omega) (by omega) (by omega) (by omega)) (RI.X (RI_lay (w := 4) (c := k) hRI (by omega) (by omega) (by omega) (by omega)) (by rw [gm_lay, gm, hN]; exact hlt.1) ((of_lay_ne _ _ (by omega) (by omega) (Or.inr (by omega))).trans (by assumption))).2.2 (by decide)) hE_15 _ _ _ hP hS (lv_sub hl [1, 0] rfl)
  refine lv_aload_n hx hb dX7_minute_0 rfl (lv_at hl 0 rfl) ?_
  refine lv_iconst (v := 1) hx hb dX7_minute_1 (by decide) ?_
  refine lv_dup2_11 hx hb dX7_minute_2 rfl rfl ?_
  refine iald_n (k := 1) hx hb hO.1 hP 0 0 rfl rfl (by omega) (by decide) dX7_minute_3 ?_
  refine lv_iconst (v := 1) hx hb dX7_minute_4 (by decide) ?_
  refine lv_iadd hx hb dX7_minute_5 ?_
  refine iast_n (k := 1) hx hb hO.1 hP (Arr_D (hA _ rfl)) hS 0 0 rfl rfl (by omega) (by decide) dX7_minute_6 (fun H locs hP hD hS => ?_)
  have hP : Arr G 0 a 327 (upd g 1 ((g 1) + 1)) H := id hP
  refine lv_iconst (v := 0) hx hb dX7_minute_7 (by decide) ?_
  refine lv_istore_n (lv' := [(1, .int 0), (0, .ref a)]) hx hb dX7_minute_8 rfl hl (by decide) rfl (fun ls hl => ?_)
  have hE_16 : h_X7_minute g = lp_rLeave g ((g 0).toNatClampNeg + 1) 0 (upd g 1 ((g 1) + 1)) := (by rw [h_X7_minute])
  exact loop9 ((g 0).toNatClampNeg + 1) 0 (upd g 1 ((g 1) + 1)) (Nat.zero_le _) (by omega) (pk_un (by omega)) (RI_same hRI0 (pk_un (by omega)) (pk_un (by omega)) fun d _ r => RC_same r (of_upd _ _ (by omega)) (of_upd _ _ (by omega)) (of_upd _ _ (by omega))) hE_16 _ _ _ hP hS (lv_sub hl [1, 0] rfl)
