section QM2
variable {p : Program} {l : Launch} {e : Env} {R : Room} {s : State} {m : MethodId} {args : Array Value} {below : List Frame} {meth : Method} {c : Code} {H : Heap} {locs : List Loc} {cells slots : Nat} {Q : State → Prop} {cc : ByteArray} {pc : Nat} {ls : Array Slot} {rest : List Value}
theorem irem_n (hexec : p.tables.exec = Jvm.exec) (hb : c.code = cc) {a b : Nat} (h : a < 2 ^ 31 ∧ 0 < b ∧ b < 2 ^ 31) (hdg : decode cc pc = .ok (.irem, 1))
    (k : W p l e R s m args below meth c H locs cells slots Q (F0 m (pc + 1) ls (.int (nI (a % b)) :: rest))) : W p l e R s m args below meth c H locs cells slots Q (F0 m pc ls (.int (nI b) :: .int (nI a) :: rest)) := by
  refine lv_irem hexec hb hdg (nI_ne0 h.2.1 h.2.2) ?_
  rw [pk_rem h.1 h.2.1 h.2.2]
  exact k
theorem idiv_n (hexec : p.tables.exec = Jvm.exec) (hb : c.code = cc) {a b : Nat} (h : a < 2 ^ 31 ∧ 0 < b ∧ b < 2 ^ 31) (hdg : decode cc pc = .ok (.idiv, 1))
    (k : W p l e R s m args below meth c H locs cells slots Q (F0 m (pc + 1) ls (.int (nI (a / b)) :: rest))) : W p l e R s m args below meth c H locs cells slots Q (F0 m pc ls (.int (nI b) :: .int (nI a) :: rest)) := by
  refine lv_idiv hexec hb hdg (nI_ne0 h.2.1 h.2.2) ?_
  rw [pk_div h.1 h.2.1 h.2.2]
  exact k
end QM2
theorem rRound_ok (g : Rw) : ∀ (n : Nat) (acc : Int32) (k : Nat) (g2 : Rw), k + n = gm g + 1 → RI g2 → g2 0 = g 0 → RI (lp_rRound g n acc k g2).2 ∧ (lp_rRound g n acc k g2).2 0 = g 0 := by
  intro n
  induction n with
  | zero => intro acc k g2 _ h h0; exact ⟨h, h0⟩
  | succ n ih =>
    intro acc k g2 hn h h0
    rw [lp_rRound]
    by_cases c1 : g2 0 ≤ nI k
    · rw [if_pos c1]
      exact ⟨h, h0⟩
    · rw [if_neg c1]
      have hb := clamp_lt (g 0)
      have hk : k < gm g2 := kV c1 (by rw [gm] at hn; omega)
      have p := RI_parks h hk
      have p0 := (parks_lo g2 k (i := 0) (by omega)).trans h0
      have i1 := ih acc (k + 1) g2 (by omega) h h0
      have i2 := ih (acc + 1) (k + 1) _ (by omega) p p0
      have i3 : ∀ u v : Int32, v ≠ 0 → RI (lp_rRound g n acc (k + 1) (h_X7_lay (h_X7_lay (h_X7_parks g2 k).2 k 5 u) k 2 v)).2 ∧ (lp_rRound g n acc (k + 1) (h_X7_lay (h_X7_lay (h_X7_parks g2 k).2 k 5 u) k 2 v)).2 0 = g 0 := fun u v hv =>
        ih acc (k + 1) _ (by omega) (RI_lay2 (RI_lay p (by omega) (by omega) (by omega) (by omega)) hv) ((lay_lo _ _ (by omega)).trans ((lay_lo _ _ (by omega)).trans p0))
      repeat' split
      all_goals first | exact i1 | exact i2 | exact i3 _ _ (by decide)
theorem rLeave_ok (g : Rw) : ∀ (n k : Nat) (g2 : Rw), k + n = gm g + 1 → RI g2 → g2 0 = g 0 → RI (lp_rLeave g n k g2).2 ∧ (lp_rLeave g n k g2).2 0 = g 0 := by
  intro n
  induction n with
  | zero => intro k g2 _ h h0; exact ⟨h, h0⟩
  | succ n ih =>
    intro k g2 hn h h0
    rw [lp_rLeave]
    by_cases c1 : g2 0 ≤ nI k
    · rw [if_pos c1]
      exact rRound_ok g _ _ _ _ (by rw [gm]; omega) h h0
    · rw [if_neg c1]
      have hb := clamp_lt (g 0)
      have hk : k < gm g2 := kV c1 (by rw [gm] at hn; omega)
      by_cases c2 : f_X7_of g2 k 2 = 0
      · rw [if_pos c2]
        have r4 := fun v => RI_lay (w := 4) (c := k) (v := v) h (by omega) (by omega) (by omega) (by omega)
        have x4 := fun v => RI.X (r4 v) (by rw [gm_lay]; exact hk) ((of_lay_ne g2 v (by omega) (by omega) (Or.inr (by omega))).trans c2)
        have i2 := fun v => ih (k + 1) _ (by omega) (RI_goes (sta := 2) (r4 v) (x4 v).2.2 (by decide)) ((goes_lo _ _ _ (by omega)).trans ((lay_lo g2 v (by omega)).trans h0))
        have i1 := fun v => ih (k + 1) _ (by omega) (r4 v) ((lay_lo g2 v (by omega)).trans h0)
        repeat' split
        all_goals first | exact i1 _ | exact i2 _
      · rw [if_neg c2]
        exact ih (k + 1) g2 (by omega) h h0
theorem minute_ok {g : Rw} (h : RI g) : RI (h_X7_minute g).2 ∧ (h_X7_minute g).2 0 = g 0 := by
  rw [h_X7_minute]
  exact rLeave_ok g _ _ _ (by rw [gm]; omega) (RI_same h (pk_un (by omega)) (pk_un (by omega)) fun d _ r => RC_same r (of_upd _ _ (by omega)) (of_upd _ _ (by omega)) (of_upd _ _ (by omega))) (pk_un (by omega))

def lp_rMin (x : Int32) : Nat → Nat → Int32 → Rw → Int32 × Rw
  | 0, _, acc, g2 => (acc, g2)
  | n + 1, k, acc, g2 => if x ≤ (nI k) then (acc, g2) else
    lp_rMin x n (k + 1) (acc + ((h_X7_minute g2).1)) ((h_X7_minute g2).2)
def h_X7_minutesOn (g : Rw) (x : Int32) : Int32 × Rw :=
  lp_rMin x (x.toNatClampNeg + 1) 0 0 g
set_option maxHeartbeats 4000000 in
set_option maxRecDepth 100000 in
theorem c_X7_minutesOn (l : Launch) (G : GG) (a : Nat) (g : Rw) (x : Int32) (hRI0 : RI g) : Met l yX7_minutesOn wsX7_minutesOn ({ frames := 6, cells := 0, slots := 0, locals := 135 }) (PcH G [.ref a, .int x] (Arr G 0 a 327 g)) (QM (some (.int ((h_X7_minutesOn g x).1))) (Arr G 0 a 327 ((h_X7_minutesOn g x).2)) (one a)) 0 0 (one a) := by
  refine metH (cc := cX7_minutesOn) (maxL := 4) (ret := (some .int)) (by decide) rfl ?_
  intro p e s m below meth cd hx hb hr hml hown hts hlocks hP hO
  have hA : ∀ q, (one a) q → (one a) q := fun _ h => h
  have hS : va_S (one a) s.heap s.heap [] := va_S.rf
  have hl := lv_entry ([.ref a, .int x]) (n := 4) (Nat.le_of_ble_eq_true rfl)
  rw [lg_entry_eq]
  generalize (lg_sl ([.ref a, .int x]) ++ List.replicate (4 - (lg_sl ([.ref a, .int x])).length) Slot.unset).toArray = ls at hl ⊢
  have hl : lv_has ls 4 [(0, .ref a), (1, .int x)] := hl
  have loop4 : ∀ (n : Nat) (k : Nat) (acc : Int32) (g2 : Rw), k ≤ x.toNatClampNeg → k + n = x.toNatClampNeg + 1 → RI g2 → h_X7_minutesOn g x = lp_rMin x n k acc g2 → ∀ (H : Heap) (locs : List Loc) (ls : Array Slot), Arr G 0 a 327 g2 H → va_S (one a) s.heap H locs → lv_has ls 4 [(0, .ref a), (1, .int x), (2, .int acc), (3, .int (nI k))] → W p l e (headSpec wsX7_minutesOn ({ frames := 6, cells := 0, slots := 0, locals := 135 } : Room)).room s m ([.ref a, .int x] : List Value).toArray below meth cd H locs 0 0 (MQ below (QM (some (.int ((h_X7_minutesOn g x).1))) (Arr G 0 a 327 ((h_X7_minutesOn g x).2)) (one a)) ([.ref a, .int x] : List Value).toArray s 0 0 (one a)) (F0 m 4 ls []) := by
    intro n
    induction n with
    | zero =>
      intro k acc g2 hk hn hRI hR H locs ls hP hS hl
      exact absurd hn (by omega)
    | succ n ih =>
      intro k acc g2 hk hn hRI hR H locs ls hP hS hl
      refine lv_iload_n hx hb dX7_minutesOn_4 rfl (lv_at hl 3 rfl) ?_
      refine lv_iload_n hx hb dX7_minutesOn_5 rfl (lv_at hl 1 rfl) ?_
      refine lv_icmp_ge (tgt := 22) hx hb dX7_minutesOn_6 (by decide) (fun c_1 => ?_) (fun c_1 => ?_)
      · refine lv_iload_n hx hb dX7_minutesOn_22 rfl (lv_at hl 2 rfl) ?_
        have hE : h_X7_minutesOn g x = (acc, g2) := (hR.trans (by rw [lp_rMin, if_pos c_1]))
        have hE2 := snd_of hE
        exact W.iret hx hb hr (fun t ht hW => ⟨by rw [fst_of hE], by rw [ht, hE2]; exact hP, hS.F ht⟩) hS.2.2 dX7_minutesOn_23
      · have hlt : k < x.toNatClampNeg := (by have h8 := clamp_lt x; exact kV c_1 (by omega))
        refine lv_iload_n hx hb dX7_minutesOn_9 rfl (lv_at hl 2 rfl) ?_
        refine lv_aload_n hx hb dX7_minutesOn_10 rfl (lv_at hl 0 rfl) ?_
        refine cl_mi (rS (As := [.ref a]) (rest := [.int acc]) ⟨hx, hb, hml, hown, hts⟩ (c_X7_minute l G a g2 hRI) (va_cwS 1 hts gX7_minutesOn_X7_minute rfl rfl rfl (by decide +kernel) ⟨Nat.le_of_ble_eq_true rfl, Nat.le_of_ble_eq_true rfl⟩) hP hO rfl hl.1 (Nat.le_of_ble_eq_true rfl) dX7_minutesOn_11 ⟨Nat.le_of_ble_eq_true rfl, Nat.le_of_ble_eq_true rfl⟩) hS hA (fun H locs hP1 hz hk hS => ?_)
        have hP : Arr G 0 a 327 ((h_X7_minute g2).2) H := hP1
        refine lv_iadd hx hb dX7_minutesOn_14 ?_
        refine lv_istore_n (lv' := [(2, .int (acc + ((h_X7_minute g2).1))), (0, .ref a), (1, .int x), (3, .int (nI k))]) hx hb dX7_minutesOn_15 rfl hl (by decide) rfl (fun ls hl => ?_)
        refine lv_iinc (v := nI (k + 1)) (lv' := [(3, .int (nI (k + 1))), (2, .int (acc + ((h_X7_minute g2).1))), (0, .ref a), (1, .int x)]) hx hb dX7_minutesOn_16 hl (k := 3) rfl (nI_1 _) (by decide) rfl (fun ls hl => ?_)
        refine lv_goto (tgt := 4) hx hb dX7_minutesOn_19 (by decide) ?_
        have hE_2 : h_X7_minutesOn g x = lp_rMin x n (k + 1) (acc + ((h_X7_minute g2).1)) ((h_X7_minute g2).2) := (hR.trans (by rw [lp_rMin, if_neg c_1]))
        exact ih (k + 1) (acc + ((h_X7_minute g2).1)) ((h_X7_minute g2).2) (by omega) (by omega) (minute_ok hRI).1 hE_2 _ _ _ hP hS (lv_sub hl [2, 3, 1, 0] rfl)
  refine lv_iconst (v := 0) hx hb dX7_minutesOn_0 (by decide) ?_
  refine lv_istore_n (lv' := [(2, .int 0), (0, .ref a), (1, .int x)]) hx hb dX7_minutesOn_1 rfl hl (by decide) rfl (fun ls hl => ?_)
  refine lv_iconst (v := 0) hx hb dX7_minutesOn_2 (by decide) ?_
  refine lv_istore_n (lv' := [(3, .int 0), (2, .int 0), (0, .ref a), (1, .int x)]) hx hb dX7_minutesOn_3 rfl hl (by decide) rfl (fun ls hl => ?_)
  have hE_3 : h_X7_minutesOn g x = lp_rMin x (x.toNatClampNeg + 1) 0 0 g := (by rw [h_X7_minutesOn])
  exact loop4 (x.toNatClampNeg + 1) 0 0 g (Nat.zero_le _) (by omega) hRI0 hE_3 _ _ _ hP hS (lv_sub hl [2, 3, 1, 0] rfl)

theorem parked_n {g : Rw} (h : RI g) {c : Nat} (hc : c < 2 ^ 31) (hp : ¬ f_X7_isParked g (nI c) = 0) : c < gm g ∧ f_X7_of g c 2 = 0 := by
  have hm := h.m
  rw [f_X7_isParked] at hp
  by_cases c1 : f_X7_isCar g (nI c) = 0
  · rw [if_pos c1] at hp
    exact absurd rfl hp
  · obtain ⟨j, hj, e⟩ := car_n hm.1 hm.2 c1
    rw [nI_eq hc (by omega)] at e
    subst e
    rw [if_neg c1, nI_clamp (by omega)] at hp
    refine ⟨hj, ?_⟩
    by_cases c2 : f_X7_of g c 2 = 0
    · exact c2
    · rw [if_neg c2] at hp
      exact absurd rfl hp
theorem RI.P {g : Rw} (h : RI g) {c : Nat} (hc : c < 2 ^ 31) (hp : ¬ f_X7_isParked g (nI c) = 0) : c < 40 ∧ f_X7_of g c 3 = nI (px g c) ∧ f_X7_of g c 0 = nI (pj g c) ∧ px g c + pj g c ≤ 80 := by
  have q := parked_n h hc hp
  have hm := h.m
  exact ⟨by omega, h.X q.1 q.2⟩
theorem RI.M {g : Rw} (h : RI g) : ∃ m, m ≤ 40 ∧ g 0 = nI m := h.1
theorem gm40 {g : Rw} (h : RI g) (hc : ¬ (40 : Int32) ≤ g 0) : gm g < 40 := by
  have hm := h.m
  rw [hm.1] at hc
  exact kN (B := 40) hc (by omega) (by omega)

def h_X7_turnOf (g : Rw) (how : Int32) (q : Nat) : Rw :=
  if 3 ≤ how then (if how = 3 then (if (f_X7_isParked g (nI (q % 40))) = 0 then g else
      (h_X7_goes g (q % 40) 2).2) else
    if how = 4 then (if (nI ((q / 128) % 3)) = 0 then (if (f_X7_canHydrant g (nI (q % 80)) 0) = 0 then g else
        (h_X7_hydrantOn g (q % 80) 0).2) else
      if (f_X7_canHydrant g (nI (q % 80)) 1) = 0 then g else
      (h_X7_hydrantOn g (q % 80) 1).2) else
    if how ≤ 5 then (if (nI ((q / 4) % 2)) = 0 then (h_X7_change g 0 (nI (q % 3))).2 else
      (h_X7_change g 1 (nI ((q / 8) % 5))).2) else
    (h_X7_minutesOn g (nI (1 + (q % 9)))).2) else
  if 40 ≤ (g 0) then g else
  (h_X7_comeOn g (nI (2 + (q % 7))) (nI (1 + ((q / 8) % 30)))).2
set_option maxHeartbeats 4000000 in
set_option maxRecDepth 100000 in
theorem c_X7_turnOf (l : Launch) (G : GG) (a : Nat) (g : Rw) (how : Int32) (q : Nat) (hRI : RI g) (hq : q < 2 ^ 28) : Met l yX7_turnOf wsX7_turnOf ({ frames := 7, cells := 0, slots := 0, locals := 158 }) (PcH G [.ref a, .int how, .int (nI q)] (Arr G 0 a 327 g)) (QM none (Arr G 0 a 327 (h_X7_turnOf g how q)) (one a)) 0 0 (one a) := by
  refine metH (cc := cX7_turnOf) (maxL := 4) (ret := none) (by decide) rfl ?_
  intro p e s m below meth cd hx hb hr hml hown hts hlocks hP hO
  have hA : ∀ q, (one a) q → (one a) q := fun _ h => h
  have hS : va_S (one a) s.heap s.heap [] := va_S.rf
  have hl := lv_entry ([.ref a, .int how, .int (nI q)]) (n := 4) (Nat.le_of_ble_eq_true rfl)
  rw [lg_entry_eq]
  generalize (lg_sl ([.ref a, .int how, .int (nI q)]) ++ List.replicate (4 - (lg_sl ([.ref a, .int how, .int (nI q)])).length) Slot.unset).toArray = ls at hl ⊢
  have hl : lv_has ls 4 [(0, .ref a), (1, .int how), (2, .int (nI q))] := hl
  refine lv_iload_n hx hb dX7_turnOf_0 rfl (lv_at hl 1 rfl) ?_
  refine lv_iconst (v := 3) hx hb dX7_turnOf_1 (by decide) ?_
  refine lv_icmp_ge (tgt := 36) hx hb dX7_turnOf_2 (by decide) (fun c_1 => ?_) (fun c_1 => ?_)
  · refine lv_iload_n hx hb dX7_turnOf_36 rfl (lv_at hl 1 rfl) ?_
    refine lv_iconst (v := 3) hx hb dX7_turnOf_37 (by decide) ?_
    refine lv_icmp_ne (tgt := 65) hx hb dX7_turnOf_38 (by decide) (fun c_2 => ?_) (fun c_2 => ?_)
    · refine lv_iload_n hx hb dX7_turnOf_65 rfl (lv_at hl 1 rfl) ?_
      refine lv_iconst (v := 4) hx hb dX7_turnOf_66 (by decide) ?_
      refine lv_icmp_ne (tgt := 111) hx hb dX7_turnOf_67 (by decide) (fun c_3 => ?_) (fun c_3 => ?_)
      · refine lv_iload_n hx hb dX7_turnOf_111 rfl (lv_at hl 1 rfl) ?_
        refine lv_iconst (v := 5) hx hb dX7_turnOf_112 (by decide) ?_
        refine lv_icmp_le (tgt := 130) hx hb dX7_turnOf_113 (by decide) (fun c_4 => ?_) (fun c_4 => ?_)
        · refine lv_iload_n hx hb dX7_turnOf_130 rfl (lv_at hl 2 rfl) ?_
          refine lv_iconst (v := 4) hx hb dX7_turnOf_131 (by decide) ?_
          refine idiv_n (a := q) (b := 4) hx hb ⟨by omega, by omega, by omega⟩ dX7_turnOf_132 ?_
          refine lv_iconst (v := 2) hx hb dX7_turnOf_133 (by decide) ?_
          refine irem_n (a := q / 4) (b := 2) hx hb ⟨by omega, by omega, by omega⟩ dX7_turnOf_134 ?_
          refine lv_if_ne (tgt := 150) hx hb dX7_turnOf_135 (by decide) (fun c_5 => ?_) (fun c_5 => ?_)
          · refine lv_aload_n hx hb dX7_turnOf_150 rfl (lv_at hl 0 rfl) ?_
            refine lv_iconst (v := 1) hx hb dX7_turnOf_151 (by decide) ?_
            refine lv_iload_n hx hb dX7_turnOf_152 rfl (lv_at hl 2 rfl) ?_
            refine lv_bipush (v := 8) hx hb dX7_turnOf_153 (by decide) ?_
            refine idiv_n (a := q) (b := 8) hx hb ⟨by omega, by omega, by omega⟩ dX7_turnOf_155 ?_
            refine lv_iconst (v := 5) hx hb dX7_turnOf_156 (by decide) ?_
            refine irem_n (a := q / 8) (b := 5) hx hb ⟨by omega, by omega, by omega⟩ dX7_turnOf_157 ?_
            refine cl_mi (rS (As := [.ref a, .int 1, .int (nI ((q / 8) % 5))]) (rest := []) ⟨hx, hb, hml, hown, hts⟩ (c_X7_change l G a g 1 (nI ((q / 8) % 5)) (by omega)) (va_cwS 3 hts gX7_turnOf_X7_change rfl rfl rfl (by decide +kernel) ⟨Nat.le_of_ble_eq_true rfl, Nat.le_of_ble_eq_true rfl⟩) hP hO rfl hl.1 (Nat.le_of_ble_eq_true rfl) dX7_turnOf_158 ⟨Nat.le_of_ble_eq_true rfl, Nat.le_of_ble_eq_true rfl⟩) hS hA (fun H locs hP1 hz hk hS => ?_)
            have hP : Arr G 0 a 327 ((h_X7_change g 1 (nI ((q / 8) % 5))).2) H := hP1
            refine lv_pop hx hb dX7_turnOf_161 rfl ?_
            have hE : h_X7_turnOf g how q = (h_X7_change g 1 (nI ((q / 8) % 5))).2 := (by rw [h_X7_turnOf, if_pos c_1, if_neg c_2, if_neg c_3, if_pos c_4, if_neg c_5])
            exact W.vret hx hb hr (fun t ht hW => ⟨rfl, by rw [ht, hE]; exact hP, hS.F ht⟩) hS.2.2 dX7_turnOf_162
          · refine lv_aload_n hx hb dX7_turnOf_138 rfl (lv_at hl 0 rfl) ?_
            refine lv_iconst (v := 0) hx hb dX7_turnOf_139 (by decide) ?_
            refine lv_iload_n hx hb dX7_turnOf_140 rfl (lv_at hl 2 rfl) ?_
            refine lv_iconst (v := 3) hx hb dX7_turnOf_141 (by decide) ?_
            refine irem_n (a := q) (b := 3) hx hb ⟨by omega, by omega, by omega⟩ dX7_turnOf_142 ?_
            refine cl_mi (rS (As := [.ref a, .int 0, .int (nI (q % 3))]) (rest := []) ⟨hx, hb, hml, hown, hts⟩ (c_X7_change l G a g 0 (nI (q % 3)) (by omega)) (va_cwS 3 hts gX7_turnOf_X7_change rfl rfl rfl (by decide +kernel) ⟨Nat.le_of_ble_eq_true rfl, Nat.le_of_ble_eq_true rfl⟩) hP hO rfl hl.1 (Nat.le_of_ble_eq_true rfl) dX7_turnOf_143 ⟨Nat.le_of_ble_eq_true rfl, Nat.le_of_ble_eq_true rfl⟩) hS hA (fun H locs hP1 hz hk hS => ?_)
            have hP : Arr G 0 a 327 ((h_X7_change g 0 (nI (q % 3))).2) H := hP1
            refine lv_pop hx hb dX7_turnOf_146 rfl ?_
            refine lv_goto (tgt := 162) hx hb dX7_turnOf_147 (by decide) ?_
            have hE : h_X7_turnOf g how q = (h_X7_change g 0 (nI (q % 3))).2 := (by rw [h_X7_turnOf, if_pos c_1, if_neg c_2, if_neg c_3, if_pos c_4, if_pos c_5])
            exact W.vret hx hb hr (fun t ht hW => ⟨rfl, by rw [ht, hE]; exact hP, hS.F ht⟩) hS.2.2 dX7_turnOf_162
        · refine lv_aload_n hx hb dX7_turnOf_116 rfl (lv_at hl 0 rfl) ?_
          refine lv_iconst (v := 1) hx hb dX7_turnOf_117 (by decide) ?_
          refine lv_iload_n hx hb dX7_turnOf_118 rfl (lv_at hl 2 rfl) ?_
          refine lv_bipush (v := 9) hx hb dX7_turnOf_119 (by decide) ?_
          refine irem_n (a := q) (b := 9) hx hb ⟨by omega, by omega, by omega⟩ dX7_turnOf_121 ?_
          refine iadd_n (a := 1) (b := q % 9) hx hb dX7_turnOf_122 ?_
          refine cl_mi (rS (As := [.ref a, .int (nI (1 + (q % 9)))]) (rest := []) ⟨hx, hb, hml, hown, hts⟩ (c_X7_minutesOn l G a g (nI (1 + (q % 9))) hRI) (va_cwS 2 hts gX7_turnOf_X7_minutesOn rfl rfl rfl (by decide +kernel) ⟨Nat.le_of_ble_eq_true rfl, Nat.le_of_ble_eq_true rfl⟩) hP hO rfl hl.1 (Nat.le_of_ble_eq_true rfl) dX7_turnOf_123 ⟨Nat.le_of_ble_eq_true rfl, Nat.le_of_ble_eq_true rfl⟩) hS hA (fun H locs hP1 hz hk hS => ?_)
          have hP : Arr G 0 a 327 ((h_X7_minutesOn g (nI (1 + (q % 9)))).2) H := hP1
          refine lv_pop hx hb dX7_turnOf_126 rfl ?_
          refine lv_goto (tgt := 162) hx hb dX7_turnOf_127 (by decide) ?_
          have hE : h_X7_turnOf g how q = (h_X7_minutesOn g (nI (1 + (q % 9)))).2 := (by rw [h_X7_turnOf, if_pos c_1, if_neg c_2, if_neg c_3, if_neg c_4])
          exact W.vret hx hb hr (fun t ht hW => ⟨rfl, by rw [ht, hE]; exact hP, hS.F ht⟩) hS.2.2 dX7_turnOf_162
      · refine lv_iload_n hx hb dX7_turnOf_70 rfl (lv_at hl 2 rfl) ?_
        refine lv_sipush (v := 128) hx hb dX7_turnOf_71 (by decide) ?_
        refine idiv_n (a := q) (b := 128) hx hb ⟨by omega, by omega, by omega⟩ dX7_turnOf_74 ?_
        refine lv_iconst (v := 3) hx hb dX7_turnOf_75 (by decide) ?_
        refine irem_n (a := q / 128) (b := 3) hx hb ⟨by omega, by omega, by omega⟩ dX7_turnOf_76 ?_
        refine lv_if_eq (tgt := 84) hx hb dX7_turnOf_77 (by decide) (fun c_6 => ?_) (fun c_6 => ?_)
        · refine lv_iconst (v := 0) hx hb dX7_turnOf_84 (by decide) ?_
          refine lv_istore_n (lv' := [(3, .int 0), (0, .ref a), (1, .int how), (2, .int (nI q))]) hx hb dX7_turnOf_85 rfl hl (by decide) rfl (fun ls hl => ?_)
          refine lv_aload_n hx hb dX7_turnOf_86 rfl (lv_at hl 1 rfl) ?_
          refine lv_iload_n hx hb dX7_turnOf_87 rfl (lv_at hl 3 rfl) ?_
          refine lv_bipush (v := 80) hx hb dX7_turnOf_88 (by decide) ?_
          refine irem_n (a := q) (b := 80) hx hb ⟨by omega, by omega, by omega⟩ dX7_turnOf_90 ?_
          refine lv_iload_n hx hb dX7_turnOf_91 rfl (lv_at hl 0 rfl) ?_
          refine cl_pi (rS (As := [.ref a, .int (nI (q % 80)), .int 0]) (rest := []) ⟨hx, hb, hml, hown, hts⟩ (c_X7_canHydrant l G a g (nI (q % 80)) 0) (va_cwS 3 hts gX7_turnOf_X7_canHydrant rfl rfl rfl (by decide +kernel) ⟨Nat.le_of_ble_eq_true rfl, Nat.le_of_ble_eq_true rfl⟩) hP hO rfl hl.1 (Nat.le_of_ble_eq_true rfl) dX7_turnOf_92 ⟨Nat.le_of_ble_eq_true rfl, Nat.le_of_ble_eq_true rfl⟩) ?_
          refine lv_if_eq (tgt := 108) hx hb dX7_turnOf_95 (by decide) (fun c_7 => ?_) (fun c_7 => ?_)
          · refine lv_goto (tgt := 162) hx hb dX7_turnOf_108 (by decide) ?_
            have hE : h_X7_turnOf g how q = g := (by rw [h_X7_turnOf, if_pos c_1, if_neg c_2, if_pos c_3, if_pos c_6, if_pos c_7])
            exact W.vret hx hb hr (fun t ht hW => ⟨rfl, by rw [ht, hE]; exact hP, hS.F ht⟩) hS.2.2 dX7_turnOf_162
          · refine lv_aload_n hx hb dX7_turnOf_98 rfl (lv_at hl 1 rfl) ?_
            refine lv_iload_n hx hb dX7_turnOf_99 rfl (lv_at hl 3 rfl) ?_
            refine lv_bipush (v := 80) hx hb dX7_turnOf_100 (by decide) ?_
            refine irem_n (a := q) (b := 80) hx hb ⟨by omega, by omega, by omega⟩ dX7_turnOf_102 ?_
            refine lv_iload_n hx hb dX7_turnOf_103 rfl (lv_at hl 0 rfl) ?_
            refine cl_mi (rS (As := [.ref a, .int (nI (q % 80)), .int 0]) (rest := []) ⟨hx, hb, hml, hown, hts⟩ (c_X7_hydrantOn l G a g (q % 80) 0 (by omega)) (va_cwS 3 hts gX7_turnOf_X7_hydrantOn rfl rfl rfl (by decide +kernel) ⟨Nat.le_of_ble_eq_true rfl, Nat.le_of_ble_eq_true rfl⟩) hP hO rfl hl.1 (Nat.le_of_ble_eq_true rfl) dX7_turnOf_104 ⟨Nat.le_of_ble_eq_true rfl, Nat.le_of_ble_eq_true rfl⟩) hS hA (fun H locs hP1 hz hk hS => ?_)
            have hP : Arr G 0 a 327 ((h_X7_hydrantOn g (q % 80) 0).2) H := hP1
            refine lv_pop hx hb dX7_turnOf_107 rfl ?_
            refine lv_goto (tgt := 162) hx hb dX7_turnOf_108 (by decide) ?_
            have hE : h_X7_turnOf g how q = (h_X7_hydrantOn g (q % 80) 0).2 := (by rw [h_X7_turnOf, if_pos c_1, if_neg c_2, if_pos c_3, if_pos c_6, if_neg c_7])
            exact W.vret hx hb hr (fun t ht hW => ⟨rfl, by rw [ht, hE]; exact hP, hS.F ht⟩) hS.2.2 dX7_turnOf_162
        · refine lv_iconst (v := 1) hx hb dX7_turnOf_80 (by decide) ?_
          refine lv_goto (tgt := 85) hx hb dX7_turnOf_81 (by decide) ?_
          refine lv_istore_n (lv' := [(3, .int 1), (0, .ref a), (1, .int how), (2, .int (nI q))]) hx hb dX7_turnOf_85 rfl hl (by decide) rfl (fun ls hl => ?_)
          refine lv_aload_n hx hb dX7_turnOf_86 rfl (lv_at hl 1 rfl) ?_
          refine lv_iload_n hx hb dX7_turnOf_87 rfl (lv_at hl 3 rfl) ?_
          refine lv_bipush (v := 80) hx hb dX7_turnOf_88 (by decide) ?_
          refine irem_n (a := q) (b := 80) hx hb ⟨by omega, by omega, by omega⟩ dX7_turnOf_90 ?_
          refine lv_iload_n hx hb dX7_turnOf_91 rfl (lv_at hl 0 rfl) ?_
          refine cl_pi (rS (As := [.ref a, .int (nI (q % 80)), .int 1]) (rest := []) ⟨hx, hb, hml, hown, hts⟩ (c_X7_canHydrant l G a g (nI (q % 80)) 1) (va_cwS 3 hts gX7_turnOf_X7_canHydrant rfl rfl rfl (by decide +kernel) ⟨Nat.le_of_ble_eq_true rfl, Nat.le_of_ble_eq_true rfl⟩) hP hO rfl hl.1 (Nat.le_of_ble_eq_true rfl) dX7_turnOf_92 ⟨Nat.le_of_ble_eq_true rfl, Nat.le_of_ble_eq_true rfl⟩) ?_
          refine lv_if_eq (tgt := 108) hx hb dX7_turnOf_95 (by decide) (fun c_8 => ?_) (fun c_8 => ?_)
          · refine lv_goto (tgt := 162) hx hb dX7_turnOf_108 (by decide) ?_
            have hE : h_X7_turnOf g how q = g := (by rw [h_X7_turnOf, if_pos c_1, if_neg c_2, if_pos c_3, if_neg c_6, if_pos c_8])
            exact W.vret hx hb hr (fun t ht hW => ⟨rfl, by rw [ht, hE]; exact hP, hS.F ht⟩) hS.2.2 dX7_turnOf_162
          · refine lv_aload_n hx hb dX7_turnOf_98 rfl (lv_at hl 1 rfl) ?_
            refine lv_iload_n hx hb dX7_turnOf_99 rfl (lv_at hl 3 rfl) ?_
            refine lv_bipush (v := 80) hx hb dX7_turnOf_100 (by decide) ?_
            refine irem_n (a := q) (b := 80) hx hb ⟨by omega, by omega, by omega⟩ dX7_turnOf_102 ?_
            refine lv_iload_n hx hb dX7_turnOf_103 rfl (lv_at hl 0 rfl) ?_
            refine cl_mi (rS (As := [.ref a, .int (nI (q % 80)), .int 1]) (rest := []) ⟨hx, hb, hml, hown, hts⟩ (c_X7_hydrantOn l G a g (q % 80) 1 (by omega)) (va_cwS 3 hts gX7_turnOf_X7_hydrantOn rfl rfl rfl (by decide +kernel) ⟨Nat.le_of_ble_eq_true rfl, Nat.le_of_ble_eq_true rfl⟩) hP hO rfl hl.1 (Nat.le_of_ble_eq_true rfl) dX7_turnOf_104 ⟨Nat.le_of_ble_eq_true rfl, Nat.le_of_ble_eq_true rfl⟩) hS hA (fun H locs hP1 hz hk hS => ?_)
            have hP : Arr G 0 a 327 ((h_X7_hydrantOn g (q % 80) 1).2) H := hP1
            refine lv_pop hx hb dX7_turnOf_107 rfl ?_
            refine lv_goto (tgt := 162) hx hb dX7_turnOf_108 (by decide) ?_
            have hE : h_X7_turnOf g how q = (h_X7_hydrantOn g (q % 80) 1).2 := (by rw [h_X7_turnOf, if_pos c_1, if_neg c_2, if_pos c_3, if_neg c_6, if_neg c_8])
            exact W.vret hx hb hr (fun t ht hW => ⟨rfl, by rw [ht, hE]; exact hP, hS.F ht⟩) hS.2.2 dX7_turnOf_162
    · refine lv_aload_n hx hb dX7_turnOf_41 rfl (lv_at hl 0 rfl) ?_
      refine lv_iload_n hx hb dX7_turnOf_42 rfl (lv_at hl 2 rfl) ?_
      refine lv_bipush (v := 40) hx hb dX7_turnOf_43 (by decide) ?_
      refine irem_n (a := q) (b := 40) hx hb ⟨by omega, by omega, by omega⟩ dX7_turnOf_45 ?_
      refine cl_pi (rS (As := [.ref a, .int (nI (q % 40))]) (rest := []) ⟨hx, hb, hml, hown, hts⟩ (c_X7_isParked l G a g (nI (q % 40)) hRI.M) (va_cwS 2 hts gX7_turnOf_X7_isParked rfl rfl rfl (by decide +kernel) ⟨Nat.le_of_ble_eq_true rfl, Nat.le_of_ble_eq_true rfl⟩) hP hO rfl hl.1 (Nat.le_of_ble_eq_true rfl) dX7_turnOf_46 ⟨Nat.le_of_ble_eq_true rfl, Nat.le_of_ble_eq_true rfl⟩) ?_
      refine lv_if_eq (tgt := 162) hx hb dX7_turnOf_49 (by decide) (fun c_9 => ?_) (fun c_9 => ?_)
      · have hE : h_X7_turnOf g how q = g := (by rw [h_X7_turnOf, if_pos c_1, if_pos c_2, if_pos c_9])
        exact W.vret hx hb hr (fun t ht hW => ⟨rfl, by rw [ht, hE]; exact hP, hS.F ht⟩) hS.2.2 dX7_turnOf_162
      · refine lv_aload_n hx hb dX7_turnOf_52 rfl (lv_at hl 0 rfl) ?_
        refine lv_iload_n hx hb dX7_turnOf_53 rfl (lv_at hl 2 rfl) ?_
        refine lv_bipush (v := 40) hx hb dX7_turnOf_54 (by decide) ?_
        refine irem_n (a := q) (b := 40) hx hb ⟨by omega, by omega, by omega⟩ dX7_turnOf_56 ?_
        refine lv_iconst (v := 2) hx hb dX7_turnOf_57 (by decide) ?_
        refine cl_mi (rS (As := [.ref a, .int (nI (q % 40)), .int 2]) (rest := []) ⟨hx, hb, hml, hown, hts⟩ (c_X7_goes l G a g (q % 40) 2 (RI.P hRI (by omega) (by assumption)).1 (RI.P hRI (by omega) (by assumption)).2.1 (RI.P hRI (by omega) (by assumption)).2.2.1 (RI.P hRI (by omega) (by assumption)).2.2.2) (va_cwS 3 hts gX7_turnOf_X7_goes rfl rfl rfl (by decide +kernel) ⟨Nat.le_of_ble_eq_true rfl, Nat.le_of_ble_eq_true rfl⟩) hP hO rfl hl.1 (Nat.le_of_ble_eq_true rfl) dX7_turnOf_58 ⟨Nat.le_of_ble_eq_true rfl, Nat.le_of_ble_eq_true rfl⟩) hS hA (fun H locs hP1 hz hk hS => ?_)
        have hP : Arr G 0 a 327 ((h_X7_goes g (q % 40) 2).2) H := hP1
        refine lv_pop hx hb dX7_turnOf_61 rfl ?_
        refine lv_goto (tgt := 162) hx hb dX7_turnOf_62 (by decide) ?_
        have hE : h_X7_turnOf g how q = (h_X7_goes g (q % 40) 2).2 := (by rw [h_X7_turnOf, if_pos c_1, if_pos c_2, if_neg c_9])
        exact W.vret hx hb hr (fun t ht hW => ⟨rfl, by rw [ht, hE]; exact hP, hS.F ht⟩) hS.2.2 dX7_turnOf_162
  · refine lv_aload_n hx hb dX7_turnOf_5 rfl (lv_at hl 0 rfl) ?_
    refine lv_iconst (v := 0) hx hb dX7_turnOf_6 (by decide) ?_
    refine iald_n (k := 0) hx hb hO.1 hP 0 0 rfl rfl (by omega) (by decide) dX7_turnOf_7 ?_
    refine lv_bipush (v := 40) hx hb dX7_turnOf_8 (by decide) ?_
    refine lv_icmp_ge (tgt := 162) hx hb dX7_turnOf_10 (by decide) (fun c_10 => ?_) (fun c_10 => ?_)
    · have hE : h_X7_turnOf g how q = g := (by rw [h_X7_turnOf, if_neg c_1, if_pos c_10])
      exact W.vret hx hb hr (fun t ht hW => ⟨rfl, by rw [ht, hE]; exact hP, hS.F ht⟩) hS.2.2 dX7_turnOf_162
    · refine lv_aload_n hx hb dX7_turnOf_13 rfl (lv_at hl 0 rfl) ?_
      refine lv_iconst (v := 2) hx hb dX7_turnOf_14 (by decide) ?_
      refine lv_iload_n hx hb dX7_turnOf_15 rfl (lv_at hl 2 rfl) ?_
      refine lv_bipush (v := 7) hx hb dX7_turnOf_16 (by decide) ?_
      refine irem_n (a := q) (b := 7) hx hb ⟨by omega, by omega, by omega⟩ dX7_turnOf_18 ?_
      refine iadd_n (a := 2) (b := q % 7) hx hb dX7_turnOf_19 ?_
      refine lv_iconst (v := 1) hx hb dX7_turnOf_20 (by decide) ?_
      refine lv_iload_n hx hb dX7_turnOf_21 rfl (lv_at hl 2 rfl) ?_
      refine lv_bipush (v := 8) hx hb dX7_turnOf_22 (by decide) ?_
      refine idiv_n (a := q) (b := 8) hx hb ⟨by omega, by omega, by omega⟩ dX7_turnOf_24 ?_
      refine lv_bipush (v := 30) hx hb dX7_turnOf_25 (by decide) ?_
      refine irem_n (a := q / 8) (b := 30) hx hb ⟨by omega, by omega, by omega⟩ dX7_turnOf_27 ?_
      refine iadd_n (a := 1) (b := (q / 8) % 30) hx hb dX7_turnOf_28 ?_
      refine cl_mi (rS (As := [.ref a, .int (nI (2 + (q % 7))), .int (nI (1 + ((q / 8) % 30)))]) (rest := []) ⟨hx, hb, hml, hown, hts⟩ (c_X7_comeOn l G a g (nI (2 + (q % 7))) (nI (1 + ((q / 8) % 30))) hRI.m.1 (gm40 hRI (by assumption)) ⟨2 + q % 7, by omega, rfl⟩ hRI.2.1) (va_cwS 3 hts gX7_turnOf_X7_comeOn rfl rfl rfl (by decide +kernel) ⟨Nat.le_of_ble_eq_true rfl, Nat.le_of_ble_eq_true rfl⟩) hP hO rfl hl.1 (Nat.le_of_ble_eq_true rfl) dX7_turnOf_29 ⟨Nat.le_of_ble_eq_true rfl, Nat.le_of_ble_eq_true rfl⟩) hS hA (fun H locs hP1 hz hk hS => ?_)
      have hP : Arr G 0 a 327 ((h_X7_comeOn g (nI (2 + (q % 7))) (nI (1 + ((q / 8) % 30)))).2) H := hP1
      refine lv_pop hx hb dX7_turnOf_32 rfl ?_
      refine lv_goto (tgt := 162) hx hb dX7_turnOf_33 (by decide) ?_
      have hE : h_X7_turnOf g how q = (h_X7_comeOn g (nI (2 + (q % 7))) (nI (1 + ((q / 8) % 30)))).2 := (by rw [h_X7_turnOf, if_neg c_1, if_neg c_10])
      exact W.vret hx hb hr (fun t ht hW => ⟨rfl, by rw [ht, hE]; exact hP, hS.F ht⟩) hS.2.2 dX7_turnOf_162

def lp_rFits (g : Rw) (len : Int32) : Nat → Int32 → Nat → Int32
  | 0, acc, _ => acc
  | n + 1, acc, k => if 80 ≤ (nI k) then acc else
    if ((nI (f_X7_gapCells g k)) - (g 3)) ≤ 0 then lp_rFits g len n (acc + 0) (f_X7_nextGap g k) else
    lp_rFits g len n (acc + (((nI (f_X7_gapCells g k)) - (g 3)) / len)) (f_X7_nextGap g k)
def f_X7_fitsIn (g : Rw) (len : Int32) : Int32 :=
  lp_rFits g len 81 0 (f_X7_gapFrom g 0)
set_option maxHeartbeats 4000000 in
set_option maxRecDepth 100000 in
theorem c_X7_fitsIn (l : Launch) (G : GG) (a : Nat) (g : Rw) (len : Int32) (hlen : ¬ len = 0) : Met l yX7_fitsIn wsX7_fitsIn ({ frames := 2, cells := 0, slots := 0, locals := 43 }) (PcH G [.ref a, .int len] (Arr G 0 a 327 g)) (QP (some (.int (f_X7_fitsIn g len)))) 0 0 noA := by
  refine metH (cc := cX7_fitsIn) (maxL := 5) (ret := (some .int)) (by decide) rfl ?_
  intro p e s m below meth cd hx hb hr hml hown hts hlocks hP hO
  have hS : va_S noA s.heap s.heap [] := va_S.rf
  have hl := lv_entry ([.ref a, .int len]) (n := 5) (Nat.le_of_ble_eq_true rfl)
  rw [lg_entry_eq]
  generalize (lg_sl ([.ref a, .int len]) ++ List.replicate (5 - (lg_sl ([.ref a, .int len])).length) Slot.unset).toArray = ls at hl ⊢
  have hl : lv_has ls 5 [(0, .ref a), (1, .int len)] := hl
  have loop8 : ∀ (n : Nat) (acc : Int32) (k : Nat) , k ≤ 80 → 80 < k + n → f_X7_fitsIn g len = lp_rFits g len n acc k → ∀ (ls : Array Slot), lv_has ls 5 [(0, .ref a), (1, .int len), (2, .int acc), (3, .int (nI k))] → W p l e (headSpec wsX7_fitsIn ({ frames := 2, cells := 0, slots := 0, locals := 43 } : Room)).room s m ([.ref a, .int len] : List Value).toArray below meth cd s.heap [] 0 0 (MQ below (QP (some (.int (f_X7_fitsIn g len)))) ([.ref a, .int len] : List Value).toArray s 0 0 noA) (F0 m 8 ls []) := by
    intro n
    induction n with
    | zero =>
      intro acc k hk hn hR ls hl
      exact absurd hn (by omega)
    | succ n ih =>
      intro acc k hk hn hR ls hl
      refine lv_iload_n hx hb dX7_fitsIn_8 rfl (lv_at hl 3 rfl) ?_
      refine lv_bipush (v := 80) hx hb dX7_fitsIn_9 (by decide) ?_
      refine lv_icmp_ge (tgt := 50) hx hb dX7_fitsIn_11 (by decide) (fun c_1 => ?_) (fun c_1 => ?_)
      · refine lv_iload_n hx hb dX7_fitsIn_50 rfl (lv_at hl 2 rfl) ?_
        have hE : f_X7_fitsIn g len = acc := (hR.trans (by rw [lp_rFits, if_pos c_1]))
        exact W.iret hx hb hr (fun t ht hW => ⟨by rw [hE], ht⟩) hS.2.2 dX7_fitsIn_51
      · have hlt : k < 80 := kN (B := 80) c_1 (by omega) (by omega)
        refine lv_aload_n hx hb dX7_fitsIn_14 rfl (lv_at hl 0 rfl) ?_
        refine lv_iload_n hx hb dX7_fitsIn_15 rfl (lv_at hl 3 rfl) ?_
        refine cl_pi (rS (As := [.ref a, .int (nI k)]) (rest := []) ⟨hx, hb, hml, hown, hts⟩ (c_X7_gapCells l G a g k (by omega)) (va_cwS 2 hts gX7_fitsIn_X7_gapCells rfl rfl rfl (by decide +kernel) ⟨Nat.le_of_ble_eq_true rfl, Nat.le_of_ble_eq_true rfl⟩) hP hO rfl hl.1 (Nat.le_of_ble_eq_true rfl) dX7_fitsIn_16 ⟨Nat.le_of_ble_eq_true rfl, Nat.le_of_ble_eq_true rfl⟩) ?_
        refine lv_aload_n hx hb dX7_fitsIn_19 rfl (lv_at hl 0 rfl) ?_
        refine lv_iconst (v := 3) hx hb dX7_fitsIn_20 (by decide) ?_
        refine iald_n (k := 3) hx hb hO.1 hP 0 0 rfl rfl (by omega) (by decide) dX7_fitsIn_21 ?_
        refine lv_isub hx hb dX7_fitsIn_22 ?_
        refine lv_istore (lv' := [(4, .int ((nI (f_X7_gapCells g k)) - (g 3))), (0, .ref a), (1, .int len), (2, .int acc), (3, .int (nI k))]) hx hb dX7_fitsIn_23 hl (by decide) rfl (fun ls hl => ?_)
        refine lv_iload_n hx hb dX7_fitsIn_25 rfl (lv_at hl 3 rfl) ?_
        refine lv_iload hx hb dX7_fitsIn_26 (lv_at hl 0 rfl) ?_
        refine lv_if_le (tgt := 38) hx hb dX7_fitsIn_28 (by decide) (fun c_2 => ?_) (fun c_2 => ?_)
        · refine lv_iconst (v := 0) hx hb dX7_fitsIn_38 (by decide) ?_
          refine lv_iadd hx hb dX7_fitsIn_39 ?_
          refine lv_istore_n (lv' := [(2, .int (acc + 0)), (4, .int ((nI (f_X7_gapCells g k)) - (g 3))), (0, .ref a), (1, .int len), (3, .int (nI k))]) hx hb dX7_fitsIn_40 rfl hl (by decide) rfl (fun ls hl => ?_)
          refine lv_aload_n hx hb dX7_fitsIn_41 rfl (lv_at hl 2 rfl) ?_
          refine lv_iload_n hx hb dX7_fitsIn_42 rfl (lv_at hl 4 rfl) ?_
          refine cl_pi (rS (As := [.ref a, .int (nI k)]) (rest := []) ⟨hx, hb, hml, hown, hts⟩ (c_X7_nextGap l G a g k (by omega)) (va_cwS 2 hts gX7_fitsIn_X7_nextGap rfl rfl rfl (by decide +kernel) ⟨Nat.le_of_ble_eq_true rfl, Nat.le_of_ble_eq_true rfl⟩) hP hO rfl hl.1 (Nat.le_of_ble_eq_true rfl) dX7_fitsIn_43 ⟨Nat.le_of_ble_eq_true rfl, Nat.le_of_ble_eq_true rfl⟩) ?_
          refine lv_istore_n (lv' := [(3, .int (nI (f_X7_nextGap g k))), (2, .int (acc + 0)), (4, .int ((nI (f_X7_gapCells g k)) - (g 3))), (0, .ref a), (1, .int len)]) hx hb dX7_fitsIn_46 rfl hl (by decide) rfl (fun ls hl => ?_)
          refine lv_goto (tgt := 8) hx hb dX7_fitsIn_47 (by decide) ?_
          have hE_3 : f_X7_fitsIn g len = lp_rFits g len n (acc + 0) (f_X7_nextGap g k) := (hR.trans (by rw [lp_rFits, if_neg c_1, if_pos c_2]))
          exact ih (acc + 0) (f_X7_nextGap g k) (next_gt g hlt).2 (by have h9 := (next_gt g hlt).1; omega) hE_3 _ (lv_sub hl [3, 4, 1, 0] rfl)
        · refine lv_iload hx hb dX7_fitsIn_31 (lv_at hl 0 rfl) ?_
          refine lv_iload_n hx hb dX7_fitsIn_33 rfl (lv_at hl 2 rfl) ?_
          refine lv_idiv hx hb dX7_fitsIn_34 hlen ?_
          refine lv_goto (tgt := 39) hx hb dX7_fitsIn_35 (by decide) ?_
          refine lv_iadd hx hb dX7_fitsIn_39 ?_
          refine lv_istore_n (lv' := [(2, .int (acc + (((nI (f_X7_gapCells g k)) - (g 3)) / len))), (4, .int ((nI (f_X7_gapCells g k)) - (g 3))), (0, .ref a), (1, .int len), (3, .int (nI k))]) hx hb dX7_fitsIn_40 rfl hl (by decide) rfl (fun ls hl => ?_)
          refine lv_aload_n hx hb dX7_fitsIn_41 rfl (lv_at hl 2 rfl) ?_
          refine lv_iload_n hx hb dX7_fitsIn_42 rfl (lv_at hl 4 rfl) ?_
          refine cl_pi (rS (As := [.ref a, .int (nI k)]) (rest := []) ⟨hx, hb, hml, hown, hts⟩ (c_X7_nextGap l G a g k (by omega)) (va_cwS 2 hts gX7_fitsIn_X7_nextGap rfl rfl rfl (by decide +kernel) ⟨Nat.le_of_ble_eq_true rfl, Nat.le_of_ble_eq_true rfl⟩) hP hO rfl hl.1 (Nat.le_of_ble_eq_true rfl) dX7_fitsIn_43 ⟨Nat.le_of_ble_eq_true rfl, Nat.le_of_ble_eq_true rfl⟩) ?_
          refine lv_istore_n (lv' := [(3, .int (nI (f_X7_nextGap g k))), (2, .int (acc + (((nI (f_X7_gapCells g k)) - (g 3)) / len))), (4, .int ((nI (f_X7_gapCells g k)) - (g 3))), (0, .ref a), (1, .int len)]) hx hb dX7_fitsIn_46 rfl hl (by decide) rfl (fun ls hl => ?_)
          refine lv_goto (tgt := 8) hx hb dX7_fitsIn_47 (by decide) ?_
          have hE_4 : f_X7_fitsIn g len = lp_rFits g len n (acc + (((nI (f_X7_gapCells g k)) - (g 3)) / len)) (f_X7_nextGap g k) := (hR.trans (by rw [lp_rFits, if_neg c_1, if_neg c_2]))
          exact ih (acc + (((nI (f_X7_gapCells g k)) - (g 3)) / len)) (f_X7_nextGap g k) (next_gt g hlt).2 (by have h9 := (next_gt g hlt).1; omega) hE_4 _ (lv_sub hl [3, 4, 1, 0] rfl)
  refine lv_iconst (v := 0) hx hb dX7_fitsIn_0 (by decide) ?_
  refine lv_istore_n (lv' := [(2, .int 0), (0, .ref a), (1, .int len)]) hx hb dX7_fitsIn_1 rfl hl (by decide) rfl (fun ls hl => ?_)
  refine lv_aload_n hx hb dX7_fitsIn_2 rfl (lv_at hl 1 rfl) ?_
  refine lv_iconst (v := 0) hx hb dX7_fitsIn_3 (by decide) ?_
  refine cl_pi (rS (As := [.ref a, .int 0]) (rest := []) ⟨hx, hb, hml, hown, hts⟩ (c_X7_gapFrom l G a g 0 (by omega)) (va_cwS 2 hts gX7_fitsIn_X7_gapFrom rfl rfl rfl (by decide +kernel) ⟨Nat.le_of_ble_eq_true rfl, Nat.le_of_ble_eq_true rfl⟩) hP hO rfl hl.1 (Nat.le_of_ble_eq_true rfl) dX7_fitsIn_4 ⟨Nat.le_of_ble_eq_true rfl, Nat.le_of_ble_eq_true rfl⟩) ?_
  refine lv_istore_n (lv' := [(3, .int (nI (f_X7_gapFrom g 0))), (2, .int 0), (0, .ref a), (1, .int len)]) hx hb dX7_fitsIn_7 rfl hl (by decide) rfl (fun ls hl => ?_)
  have hE_5 : f_X7_fitsIn g len = lp_rFits g len 81 0 (f_X7_gapFrom g 0) := (by rw [f_X7_fitsIn])
  exact loop8 81 0 (f_X7_gapFrom g 0) (from_le g (by omega)).2 (by omega) hE_5 _ (lv_sub hl [2, 3, 1, 0] rfl)
