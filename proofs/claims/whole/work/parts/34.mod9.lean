theorem clear_0 (g : Rw) (c : Int32) (to n k : Nat) : lp_rClear g c to n 0 k = 0 := by
  cases n with
  | zero => rfl
  | succ n =>
    rw [lp_rClear]
    split
    · rfl
    · rw [if_pos rfl]
theorem clear_to {g : Rw} {c : Int32} {fr to : Nat} (ht : to < 2 ^ 31) (h : ¬ f_X7_isClear g c fr to = 0) : to ≤ 80 := by
  rw [f_X7_isClear] at h
  by_cases c1 : (80 : Int32) < nI to
  · rw [if_pos c1, clear_0] at h
    exact absurd rfl h
  · exact le_nI' c1 ht
theorem mv_ok {g : Rw} {c x : Nat} (h : RI g) (hc : c < 40) (hx : x < 80) (hm : ¬ f_X7_canMove g c x = 0) : c < gm g ∧ f_X7_of g c 2 = 0 ∧ x + pj g c ≤ 80 := by
  rw [f_X7_canMove] at hm
  by_cases c1 : f_X7_isParked g (nI c) = 0
  · rw [if_pos c1] at hm
    exact absurd rfl hm
  · have q := parked_n h (by omega) c1
    have r := h.X q.1 q.2
    refine ⟨q.1, q.2, ?_⟩
    by_cases c2 : f_X7_of g c 3 ≤ nI x
    rotate_left
    · rw [r.1, nI_leI (by omega) (by omega)] at c2
      omega
    · rw [if_neg c1, if_pos c2, if_pos c2] at hm
      refine clear_to (g := g) (c := nI c) (fr := px g c) (by omega) fun z => hm ?_
      rw [if_pos z]
theorem c_X7_canMove_raw (l : Launch) (G : GG) (a : Nat) (g : Rw) (c x : Int32) (hRp : RI g) (hc : ∃ j, j < 40 ∧ c = nI j) (hx : ∃ j, j < 80 ∧ x = nI j) : Met l yX7_canMove wsX7_canMove ({ frames := 3, cells := 0, slots := 0, locals := 67 }) (PcH G [.ref a, .int c, .int x] (Arr G 0 a 327 g)) (QP (some (.int (f_X7_canMove g c.toNatClampNeg x.toNatClampNeg)))) 0 0 noA := by
  obtain ⟨j, hj, rfl⟩ := hc
  obtain ⟨u, hu, rfl⟩ := hx
  rw [nI_clamp (by omega), nI_clamp (by omega)]
  exact c_X7_canMove l G a g j u hRp.M hj hu fun z => (RI.P hRp (by omega) z).2
theorem c_X7_moveOn_raw (l : Launch) (G : GG) (a : Nat) (g : Rw) (c x : Int32) (hRp : RI g) (hc : ∃ j, j < 40 ∧ c = nI j) (hx : ∃ j, j < 80 ∧ x = nI j) (hm : ¬ f_X7_canMove g c.toNatClampNeg x.toNatClampNeg = 0) : Met l yX7_moveOn wsX7_moveOn ({ frames := 1, cells := 0, slots := 0, locals := 24 }) (PcH G [.ref a, .int c, .int x] (Arr G 0 a 327 g)) (QM (some (.int (h_X7_moveOn g c.toNatClampNeg x.toNatClampNeg).1)) (Arr G 0 a 327 (h_X7_moveOn g c.toNatClampNeg x.toNatClampNeg).2) (one a)) 0 0 (one a) := by
  obtain ⟨j, hj, rfl⟩ := hc
  obtain ⟨u, hu, rfl⟩ := hx
  rw [nI_clamp (by omega), nI_clamp (by omega)] at hm ⊢
  have q := mv_ok hRp hj hu hm
  have r := hRp.X q.1 q.2.1
  exact c_X7_moveOn l G a g j u hj r.1 r.2.1 r.2.2 q.2.2

def h_X7_move (M : Mo) (c : Int32) (x : Int32) : Int32 × Mo :=
  if (f_X7_isCar (mN M) c) = 0 then (0, (h_X7_refused M 1).2) else
  if (f_X7_isCell x) = 0 then (0, (h_X7_refused M 1).2) else
  if (f_X7_canMove (mN M) c.toNatClampNeg x.toNatClampNeg) = 0 then (0, (h_X7_refused M 2).2) else
  ((h_X7_moveOn (mN (h_X7_remember ((h_X7_refused M 0).2))) c.toNatClampNeg x.toNatClampNeg).1, (oN (h_X7_remember ((h_X7_refused M 0).2)) ((h_X7_moveOn (mN (h_X7_remember ((h_X7_refused M 0).2))) c.toNatClampNeg x.toNatClampNeg).2)))
set_option maxHeartbeats 4000000 in
set_option maxRecDepth 100000 in
theorem c_X7_move (l : Launch) (G : GG) (b : Nat) (M : Mo) (c : Int32) (x : Int32) (hRI : RI (mN M)) (hac : mC M = nI (ac M)) (hac14 : ac M ≤ 14) : Met l yX7_move wsX7_move ({ frames := 4, cells := 0, slots := 0, locals := 91 }) (PcH G [.ref b, .int c, .int x] (Md G b M)) (QM (some (.int ((h_X7_move M c x).1))) (Md G b ((h_X7_move M c x).2)) (blk b (b + 8))) 0 0 (blk b (b + 8)) := by
  refine metH (cc := cX7_move) (maxL := 3) (ret := (some .int)) (by decide) rfl ?_
  intro p e s m below meth cd hx hb hr hml hown hts hlocks hP hO
  have hin7 : ∀ w ∈ u_ws RX7 TX7 12, w ∈ wsX7_move := by decide +kernel
  have hf_13 := hts (.fieldLink RX7 13 "CurbCarsModel" "now" "[I") (by decide +kernel)
  have hA : ∀ q, (blk b (b + 8)) q → (blk b (b + 8)) q := fun _ h => h
  have hS : va_S (blk b (b + 8)) s.heap s.heap [] := va_S.rf
  have hl := lv_entry ([.ref b, .int c, .int x]) (n := 3) (Nat.le_of_ble_eq_true rfl)
  rw [lg_entry_eq]
  generalize (lg_sl ([.ref b, .int c, .int x]) ++ List.replicate (3 - (lg_sl ([.ref b, .int c, .int x])).length) Slot.unset).toArray = ls at hl ⊢
  have hl : lv_has ls 3 [(0, .ref b), (1, .int c), (2, .int x)] := hl
  refine lv_aload_n hx hb dX7_move_0 rfl (lv_at hl 0 rfl) ?_
  refine lv_aload_n hx hb dX7_move_1 rfl (lv_at hl 0 rfl) ?_
  refine va_get (D := G.1) (ci := 5) (v := .ref (b + 2)) (C := RX7) (T := TX7) (N := 12) hx hb hts hin7 hown hO.1 hP 0 rfl rfl 3 (by decide) hf_13 (fun _ h9 => h9) rfl dX7_move_2 ?_
  refine lv_iload_n hx hb dX7_move_5 rfl (lv_at hl 1 rfl) ?_
  refine cl_pi (rS (As := [.ref (b + 2), .int c]) (rest := [.ref b]) ⟨hx, hb, hml, hown, hts⟩ (c_X7_isCar l G (b + 2) (mN M) c) (va_cwS 2 hts gX7_move_X7_isCar rfl rfl rfl (by decide +kernel) ⟨Nat.le_of_ble_eq_true rfl, Nat.le_of_ble_eq_true rfl⟩) (va_P.sub hP [2] rfl) hO rfl hl.1 (Nat.le_of_ble_eq_true rfl) dX7_move_6 ⟨Nat.le_of_ble_eq_true rfl, Nat.le_of_ble_eq_true rfl⟩) ?_
  refine lv_if_eq (tgt := 19) hx hb dX7_move_9 (by decide) (fun c_1 => ?_) (fun c_1 => ?_)
  · refine lv_iconst (v := 1) hx hb dX7_move_19 (by decide) ?_
    refine lv_goto (tgt := 40) hx hb dX7_move_20 (by decide) ?_
    refine cl_mi (rV (As := [.int 1]) (rest := []) ⟨hx, hb, hml, hown, hts⟩ (c_X7_refused l G b M 1) (cwV 1 hts gX7_move_X7_refused rfl rfl rfl (by decide +kernel) ⟨Nat.le_of_ble_eq_true rfl, Nat.le_of_ble_eq_true rfl⟩) (md_recv hO hP) hP hO rfl hl.1 (Nat.le_of_ble_eq_true rfl) dX7_move_40 ⟨Nat.le_of_ble_eq_true rfl, Nat.le_of_ble_eq_true rfl⟩) hS hA (fun H locs hP1 hz hk hS => ?_)
    have hP : Md G b ((h_X7_refused M 1).2) H := hP1
    refine lv_if_eq (tgt := 48) hx hb dX7_move_43 (by decide) (fun c_2 => ?_) (fun c_2 => ?_)
    · exact absurd c_2 (ref_p1 _)
    · refine lv_iconst (v := 0) hx hb dX7_move_46 (by decide) ?_
      have hE : h_X7_move M c x = (0, (h_X7_refused M 1).2) := (by rw [h_X7_move, if_pos c_1])
      have hE2 := snd_of hE
      exact W.iret hx hb hr (fun t ht hW => ⟨by rw [fst_of hE], by rw [ht, hE2]; exact hP, hS.F ht⟩) hS.2.2 dX7_move_47
  · refine lv_iload_n hx hb dX7_move_12 rfl (lv_at hl 2 rfl) ?_
    refine cl_pi (rS (As := [.int x]) (rest := [.ref b]) ⟨hx, hb, hml, hown, hts⟩ (c_X7_isCell l G x) (va_cwS 1 hts gX7_move_X7_isCell rfl rfl rfl (by decide +kernel) ⟨Nat.le_of_ble_eq_true rfl, Nat.le_of_ble_eq_true rfl⟩) trivial hO rfl hl.1 (Nat.le_of_ble_eq_true rfl) dX7_move_13 ⟨Nat.le_of_ble_eq_true rfl, Nat.le_of_ble_eq_true rfl⟩) ?_
    refine lv_if_ne (tgt := 23) hx hb dX7_move_16 (by decide) (fun c_3 => ?_) (fun c_3 => ?_)
    · refine lv_aload_n hx hb dX7_move_23 rfl (lv_at hl 0 rfl) ?_
      refine va_get (D := G.1) (ci := 5) (v := .ref (b + 2)) (C := RX7) (T := TX7) (N := 12) hx hb hts hin7 hown hO.1 hP 0 rfl rfl 3 (by decide) hf_13 (fun _ h9 => h9) rfl dX7_move_24 ?_
      refine lv_iload_n hx hb dX7_move_27 rfl (lv_at hl 1 rfl) ?_
      refine lv_iload_n hx hb dX7_move_28 rfl (lv_at hl 2 rfl) ?_
      refine cl_pi (rS (As := [.ref (b + 2), .int c, .int x]) (rest := [.ref b]) ⟨hx, hb, hml, hown, hts⟩ (c_X7_canMove_raw l G (b + 2) (mN M) c x hRI (car_r (M := M) (w := 0) hRI (by assumption)) (rcell_n (by assumption))) (va_cwS 3 hts gX7_move_X7_canMove rfl rfl rfl (by decide +kernel) ⟨Nat.le_of_ble_eq_true rfl, Nat.le_of_ble_eq_true rfl⟩) (va_P.sub hP [2] rfl) hO rfl hl.1 (Nat.le_of_ble_eq_true rfl) dX7_move_29 ⟨Nat.le_of_ble_eq_true rfl, Nat.le_of_ble_eq_true rfl⟩) ?_
      refine lv_if_eq (tgt := 39) hx hb dX7_move_32 (by decide) (fun c_4 => ?_) (fun c_4 => ?_)
      · refine lv_iconst (v := 2) hx hb dX7_move_39 (by decide) ?_
        refine cl_mi (rV (As := [.int 2]) (rest := []) ⟨hx, hb, hml, hown, hts⟩ (c_X7_refused l G b M 2) (cwV 1 hts gX7_move_X7_refused rfl rfl rfl (by decide +kernel) ⟨Nat.le_of_ble_eq_true rfl, Nat.le_of_ble_eq_true rfl⟩) (md_recv hO hP) hP hO rfl hl.1 (Nat.le_of_ble_eq_true rfl) dX7_move_40 ⟨Nat.le_of_ble_eq_true rfl, Nat.le_of_ble_eq_true rfl⟩) hS hA (fun H locs hP1 hz hk hS => ?_)
        have hP : Md G b ((h_X7_refused M 2).2) H := hP1
        refine lv_if_eq (tgt := 48) hx hb dX7_move_43 (by decide) (fun c_5 => ?_) (fun c_5 => ?_)
        · exact absurd c_5 (ref_p2 _)
        · refine lv_iconst (v := 0) hx hb dX7_move_46 (by decide) ?_
          have hE : h_X7_move M c x = (0, (h_X7_refused M 2).2) := (by rw [h_X7_move, if_neg c_1, if_neg c_3, if_pos c_4])
          have hE2 := snd_of hE
          exact W.iret hx hb hr (fun t ht hW => ⟨by rw [fst_of hE], by rw [ht, hE2]; exact hP, hS.F ht⟩) hS.2.2 dX7_move_47
      · refine lv_iconst (v := 0) hx hb dX7_move_35 (by decide) ?_
        refine lv_goto (tgt := 40) hx hb dX7_move_36 (by decide) ?_
        refine cl_mi (rV (As := [.int 0]) (rest := []) ⟨hx, hb, hml, hown, hts⟩ (c_X7_refused l G b M 0) (cwV 1 hts gX7_move_X7_refused rfl rfl rfl (by decide +kernel) ⟨Nat.le_of_ble_eq_true rfl, Nat.le_of_ble_eq_true rfl⟩) (md_recv hO hP) hP hO rfl hl.1 (Nat.le_of_ble_eq_true rfl) dX7_move_40 ⟨Nat.le_of_ble_eq_true rfl, Nat.le_of_ble_eq_true rfl⟩) hS hA (fun H locs hP1 hz hk hS => ?_)
        have hP : Md G b ((h_X7_refused M 0).2) H := hP1
        refine lv_if_eq (tgt := 48) hx hb dX7_move_43 (by decide) (fun c_6 => ?_) (fun c_6 => ?_)
        · refine lv_aload_n hx hb dX7_move_48 rfl (lv_at hl 0 rfl) ?_
          refine cl_mv (rV (As := []) (rest := []) ⟨hx, hb, hml, hown, hts⟩ (c_X7_remember l G b ((h_X7_refused M 0).2) (by rw [ref_C, ref_ac]; exact hac) (by rw [ref_ac]; exact hac14)) (cwV 0 hts gX7_move_X7_remember rfl rfl rfl (by decide +kernel) ⟨Nat.le_of_ble_eq_true rfl, Nat.le_of_ble_eq_true rfl⟩) (md_recv hO hP) hP hO rfl hl.1 (Nat.le_of_ble_eq_true rfl) dX7_move_49 ⟨Nat.le_of_ble_eq_true rfl, Nat.le_of_ble_eq_true rfl⟩) hS hA (fun H locs hP1 hz hk hS => ?_)
          have hP : Md G b (h_X7_remember ((h_X7_refused M 0).2)) H := hP1
          refine lv_aload_n hx hb dX7_move_52 rfl (lv_at hl 0 rfl) ?_
          refine va_get (D := G.1) (ci := 5) (v := .ref (b + 2)) (C := RX7) (T := TX7) (N := 12) hx hb hts hin7 hown hO.1 hP 0 rfl rfl 3 (by decide) hf_13 (fun _ h9 => h9) rfl dX7_move_53 ?_
          refine lv_iload_n hx hb dX7_move_56 rfl (lv_at hl 1 rfl) ?_
          refine lv_iload_n hx hb dX7_move_57 rfl (lv_at hl 2 rfl) ?_
          refine cl_mi (rS (As := [.ref (b + 2), .int c, .int x]) (rest := []) ⟨hx, hb, hml, hown, hts⟩ (c_X7_moveOn_raw l G (b + 2) (mN (h_X7_remember ((h_X7_refused M 0).2))) c x (RI_rr hRI) (car_r (M := M) (w := 0) hRI (by assumption)) (rcell_n (by assumption)) (by rw [rr_N]; assumption)) (va_cwS 3 hts gX7_move_X7_moveOn rfl rfl rfl (by decide +kernel) ⟨Nat.le_of_ble_eq_true rfl, Nat.le_of_ble_eq_true rfl⟩) (va_P.sub hP [2] rfl) hO rfl hl.1 (Nat.le_of_ble_eq_true rfl) dX7_move_58 ⟨Nat.le_of_ble_eq_true rfl, Nat.le_of_ble_eq_true rfl⟩) hS (fun q h => hA q (by simp only [one, blk] at *; omega)) (fun H locs hP1 hz hk hS => ?_)
          have hP : Md G b (oN (h_X7_remember ((h_X7_refused M 0).2)) ((h_X7_moveOn (mN (h_X7_remember ((h_X7_refused M 0).2))) c.toNatClampNeg x.toNatClampNeg).2)) H := md_pN (mo_row 2 hP rfl hP1 hk)
          have hE : h_X7_move M c x = ((h_X7_moveOn (mN (h_X7_remember ((h_X7_refused M 0).2))) c.toNatClampNeg x.toNatClampNeg).1, (oN (h_X7_remember ((h_X7_refused M 0).2)) ((h_X7_moveOn (mN (h_X7_remember ((h_X7_refused M 0).2))) c.toNatClampNeg x.toNatClampNeg).2))) := (by rw [h_X7_move, if_neg c_1, if_neg c_3, if_neg c_4])
          have hE2 := snd_of hE
          exact W.iret hx hb hr (fun t ht hW => ⟨by rw [fst_of hE], by rw [ht, hE2]; exact hP, hS.F ht⟩) hS.2.2 dX7_move_61
        · exact absurd (ref_0 _) c_6
    · refine lv_iconst (v := 1) hx hb dX7_move_19 (by decide) ?_
      refine lv_goto (tgt := 40) hx hb dX7_move_20 (by decide) ?_
      refine cl_mi (rV (As := [.int 1]) (rest := []) ⟨hx, hb, hml, hown, hts⟩ (c_X7_refused l G b M 1) (cwV 1 hts gX7_move_X7_refused rfl rfl rfl (by decide +kernel) ⟨Nat.le_of_ble_eq_true rfl, Nat.le_of_ble_eq_true rfl⟩) (md_recv hO hP) hP hO rfl hl.1 (Nat.le_of_ble_eq_true rfl) dX7_move_40 ⟨Nat.le_of_ble_eq_true rfl, Nat.le_of_ble_eq_true rfl⟩) hS hA (fun H locs hP1 hz hk hS => ?_)
      have hP : Md G b ((h_X7_refused M 1).2) H := hP1
      refine lv_if_eq (tgt := 48) hx hb dX7_move_43 (by decide) (fun c_7 => ?_) (fun c_7 => ?_)
      · exact absurd c_7 (ref_p1 _)
      · refine lv_iconst (v := 0) hx hb dX7_move_46 (by decide) ?_
        have hE : h_X7_move M c x = (0, (h_X7_refused M 1).2) := (by rw [h_X7_move, if_neg c_1, if_pos c_3])
        have hE2 := snd_of hE
        exact W.iret hx hb hr (fun t ht hW => ⟨by rw [fst_of hE], by rw [ht, hE2]; exact hP, hS.F ht⟩) hS.2.2 dX7_move_47
