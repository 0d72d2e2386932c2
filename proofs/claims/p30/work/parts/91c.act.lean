set_option maxHeartbeats 4000000 in
set_option maxRecDepth 100000 in
theorem c_L_act_4 (l : Launch) (G : GG) (b : Nat) (X : Cx) (M : Mo) (n : Nat) (hst : l.stackTraces = false) (RX : RelX X M) (CX : Ch X) (hn : n < 2 ^ 31) (hi : n % 16 = 4) : Met l yL_act wsL_act ({ frames := 12, cells := 2, slots := 12, locals := 210 }) (PcN G (blk b (b + 170)) [.ref b, .int (nI n)] (Cb G b X)) (QM (some (.int ((fact M n).1))) (fun H => ∃ X1, Cb G b X1 H ∧ RelX X1 (fact M n).2 ∧ Ch X1) (blk b (b + 170))) 2 12 (blk b (b + 170)) := by
  refine metN (cc := cL_act) (maxL := 5) (ret := (some .int)) (by decide) rfl ?_
  intro p e s m below meth cd hx hb hr hml hown hts hlocks hP hO hTh hN
  have hg2 : 2 ≤ gm (mN M) := by rw [← nm_gm RX]; exact CX.1
  have hg40 := RX.nw.2.ri.m.2
  have hg0 : 0 < gm (mN M) := Nat.lt_of_lt_of_le (by decide) hg2
  have hg31 : gm (mN M) < 2 ^ 31 := Nat.lt_of_le_of_lt hg40 (by decide)
  have hn16 : n / 16 < 2 ^ 31 := Nat.lt_of_le_of_lt (Nat.div_le_self _ _) hn
  have hnd : ∀ k, n / 16 / k < 2 ^ 31 := fun k => Nat.lt_of_le_of_lt (Nat.div_le_self _ _) hn16
  have hnm : ∀ k, n / 16 % k < 2 ^ 31 := fun k => Nat.lt_of_le_of_lt (Nat.mod_le _ _) hn16
  have hS : va_S (blk b (b + 170)) s.heap s.heap [] := va_S.rf
  have hl := lv_entry ([.ref b, .int (nI n)]) (n := 5) (Nat.le_of_ble_eq_true rfl)
  rw [lg_entry_eq]
  generalize (lg_sl ([.ref b, .int (nI n)]) ++ List.replicate (5 - (lg_sl ([.ref b, .int (nI n)])).length) Slot.unset).toArray = ls at hl ⊢
  have hl : lv_has ls 5 [(0, .ref b), (1, .int (nI n))] := hl
  refine lv_iload_n hx hb dL_act_0 rfl (lv_at hl 1 rfl) ?_
  refine lv_bipush (v := 16) hx hb dL_act_1 (by decide) ?_
  refine idiv_n (a := n) (b := 16) hx hb ⟨hn, by decide, by decide⟩ dL_act_3 ?_
  refine lv_istore_n (lv' := [(2, .int (nI (n / 16))), (0, .ref b), (1, .int (nI n))]) hx hb dL_act_4 rfl hl (by decide) rfl (fun ls hl => ?_)
  refine lv_aload_n hx hb dL_act_5 rfl (lv_at hl 1 rfl) ?_
  refine lv_iconst (v := 2) hx hb dL_act_6 (by decide) ?_
  refine lv_iconst (v := 0) hx hb dL_act_7 (by decide) ?_
  refine lv_iconst (v := 0) hx hb dL_act_8 (by decide) ?_
  refine lv_iconst (v := 0) hx hb dL_act_9 (by decide) ?_
  refine cl_o1 (rSP (A := blk b (b + 170)) (As := [.ref b, .int 2, .int 0, .int 0, .int 0]) (rest := []) ⟨hx, hb, hml, hown, hts⟩ (c_call_2 l G b X 0 0 0 (nI (gm (mN M))) X hst (rd_ab0 RX)) (va_cwS 5 hts gL_act_L_call rfl rfl rfl (by decide +kernel) ⟨(Nat.le_of_ble_eq_true rfl), (Nat.le_of_ble_eq_true rfl)⟩) hP hO (thr_at hTh hS (fun q h => h)) hN rfl hl.1 (Nat.le_of_ble_eq_true rfl) dL_act_10 ⟨(Nat.le_of_ble_eq_true rfl), (Nat.le_of_ble_eq_true rfl)⟩) hS (fun q h => h) (fun H locs hP hS => ?_)
  refine lv_istore_n (lv' := [(3, .int (nI (gm (mN M)))), (2, .int (nI (n / 16))), (0, .ref b), (1, .int (nI n))]) hx hb dL_act_13 rfl hl (by decide) rfl (fun ls hl => ?_)
  refine lv_iload_n hx hb dL_act_14 rfl (lv_at hl 1 rfl) ?_
  refine lv_iload_n hx hb dL_act_15 rfl (lv_at hl 0 rfl) ?_
  refine irem_n (a := n / 16) (b := gm (mN M)) hx hb ⟨hn16, hg0, hg31⟩ dL_act_16 ?_
  refine lv_istore (lv' := [(4, .int (nI ((n / 16) % (gm (mN M))))), (3, .int (nI (gm (mN M)))), (2, .int (nI (n / 16))), (0, .ref b), (1, .int (nI n))]) hx hb dL_act_17 hl (by decide) rfl (fun ls hl => ?_)
  refine lv_iload_n hx hb dL_act_19 rfl (lv_at hl 4 rfl) ?_
  refine lv_bipush (v := 16) hx hb dL_act_20 (by decide) ?_
  refine irem_n (a := n) (b := 16) hx hb ⟨hn, by decide, by decide⟩ dL_act_22 ?_
  rw [hi]
  refine lv_tableIn (off := 103) (tgt := 126) hx hb dL_act_23 (by decide) (by decide) (by decide +kernel) (by decide) ?_
  refine lv_aload_n hx hb dL_act_126 rfl (lv_at hl 3 rfl) ?_
  refine lv_iload_n hx hb dL_act_127 rfl (lv_at hl 2 rfl) ?_
  refine lv_bipush (v := 80) hx hb dL_act_128 (by decide) ?_
  refine irem_n (a := n / 16) (b := 80) hx hb ⟨hn16, by decide, by decide⟩ dL_act_130 ?_
  refine lv_iload_n hx hb dL_act_131 rfl (lv_at hl 2 rfl) ?_
  refine lv_bipush (v := 80) hx hb dL_act_132 (by decide) ?_
  refine idiv_n (a := n / 16) (b := 80) hx hb ⟨hn16, by decide, by decide⟩ dL_act_134 ?_
  refine lv_iconst (v := 3) hx hb dL_act_135 (by decide) ?_
  refine irem_n (a := (n / 16) / 80) (b := 3) hx hb ⟨hnd 80, by decide, by decide⟩ dL_act_136 ?_
  refine lv_if_le (tgt := 144) hx hb dL_act_137 (by decide) (fun c1 => ?_) (fun c1 => ?_)
  · have c1f : ((n / 16) / 80) % 3 ≤ 0 := (nI_leI (a := ((n / 16) / 80) % 3) (b := 0) (by omega) (by omega)).mp c1
    refine lv_iconst (v := 0) hx hb dL_act_144 (by decide) ?_
    obtain ⟨u1, hu1⟩ : ∃ u : Nat, u = (n / 16) % 80 := ⟨_, rfl⟩
    rw [← hu1]
    have hq2 := (aq_hydrant (nI u1) 0 RX CX).1
    refine cl_w1 (xSW (A := blk b (b + 170)) (As := [.ref b, .int (nI u1), .int 0]) (rest := []) ⟨hx, hb, hml, hown, hts⟩ (w_L_hydrants l G b X (nI u1) 0 _ _ hst (RX).ho (RX).hk hq2) (vx_cwSW 3 hts gL_act_L_hydrants rfl rfl rfl (by decide +kernel) ⟨(Nat.le_of_ble_eq_true rfl), (Nat.le_of_ble_eq_true rfl)⟩) hP hO (thr_at hTh hS (fun q h => h)) hN rfl hl.1 (Nat.le_of_ble_eq_true rfl) dL_act_145 ⟨(Nat.le_of_ble_eq_true rfl), (Nat.le_of_ble_eq_true rfl)⟩) hS (fun q h => h) (fun H locs hP hS => ?_)
    have hF : fact M n = ((rvE kIOO kISE (h_X7_hydrant M (nI u1) 0)), (h_X7_hydrant M (nI u1) 0).2) := by rw [fact_4 hi, if_neg (Nat.not_lt.mpr c1f), hu1]
    exact W.widen (k := 2) (n := 12) (Nat.le_of_ble_eq_true rfl) (Nat.le_of_ble_eq_true rfl) (W.iret hx hb hr (fun t ht hW => ⟨(by rw [fin1 hF]), by rw [ht]; exact ⟨_, hP, fin2 hF ((aq_hydrant (nI u1) 0 RX CX).2.1), ((aq_hydrant (nI u1) 0 RX CX).2.2)⟩, hS.F ht⟩) hS.2.2 dL_act_148)
  · have c1f : ¬ (((n / 16) / 80) % 3) ≤ 0 := fun z => c1 ((nI_leI (a := ((n / 16) / 80) % 3) (b := 0) (by omega) (by omega)).mpr z)
    refine lv_iconst (v := 1) hx hb dL_act_140 (by decide) ?_
    refine lv_goto (tgt := 145) hx hb dL_act_141 (by decide) ?_
    obtain ⟨u1, hu1⟩ : ∃ u : Nat, u = (n / 16) % 80 := ⟨_, rfl⟩
    rw [← hu1]
    have hq3 := (aq_hydrant (nI u1) 1 RX CX).1
    refine cl_w1 (xSW (A := blk b (b + 170)) (As := [.ref b, .int (nI u1), .int 1]) (rest := []) ⟨hx, hb, hml, hown, hts⟩ (w_L_hydrants l G b X (nI u1) 1 _ _ hst (RX).ho (RX).hk hq3) (vx_cwSW 3 hts gL_act_L_hydrants rfl rfl rfl (by decide +kernel) ⟨(Nat.le_of_ble_eq_true rfl), (Nat.le_of_ble_eq_true rfl)⟩) hP hO (thr_at hTh hS (fun q h => h)) hN rfl hl.1 (Nat.le_of_ble_eq_true rfl) dL_act_145 ⟨(Nat.le_of_ble_eq_true rfl), (Nat.le_of_ble_eq_true rfl)⟩) hS (fun q h => h) (fun H locs hP hS => ?_)
    have hF : fact M n = ((rvE kIOO kISE (h_X7_hydrant M (nI u1) 1)), (h_X7_hydrant M (nI u1) 1).2) := by rw [fact_4 hi, if_pos (Nat.lt_of_not_le c1f), hu1]
    exact W.widen (k := 2) (n := 12) (Nat.le_of_ble_eq_true rfl) (Nat.le_of_ble_eq_true rfl) (W.iret hx hb hr (fun t ht hW => ⟨(by rw [fin1 hF]), by rw [ht]; exact ⟨_, hP, fin2 hF ((aq_hydrant (nI u1) 1 RX CX).2.1), ((aq_hydrant (nI u1) 1 RX CX).2.2)⟩, hS.F ht⟩) hS.2.2 dL_act_148)

set_option maxHeartbeats 4000000 in
set_option maxRecDepth 100000 in
theorem c_L_act_5 (l : Launch) (G : GG) (b : Nat) (X : Cx) (M : Mo) (n : Nat) (hst : l.stackTraces = false) (RX : RelX X M) (CX : Ch X) (hn : n < 2 ^ 31) (hi : n % 16 = 5) : Met l yL_act wsL_act ({ frames := 12, cells := 2, slots := 12, locals := 210 }) (PcN G (blk b (b + 170)) [.ref b, .int (nI n)] (Cb G b X)) (QM (some (.int ((fact M n).1))) (fun H => ∃ X1, Cb G b X1 H ∧ RelX X1 (fact M n).2 ∧ Ch X1) (blk b (b + 170))) 2 12 (blk b (b + 170)) := by
  refine metN (cc := cL_act) (maxL := 5) (ret := (some .int)) (by decide) rfl ?_
  intro p e s m below meth cd hx hb hr hml hown hts hlocks hP hO hTh hN
  have hg2 : 2 ≤ gm (mN M) := by rw [← nm_gm RX]; exact CX.1
  have hg40 := RX.nw.2.ri.m.2
  have hg0 : 0 < gm (mN M) := Nat.lt_of_lt_of_le (by decide) hg2
  have hg31 : gm (mN M) < 2 ^ 31 := Nat.lt_of_le_of_lt hg40 (by decide)
  have hn16 : n / 16 < 2 ^ 31 := Nat.lt_of_le_of_lt (Nat.div_le_self _ _) hn
  have hnd : ∀ k, n / 16 / k < 2 ^ 31 := fun k => Nat.lt_of_le_of_lt (Nat.div_le_self _ _) hn16
  have hnm : ∀ k, n / 16 % k < 2 ^ 31 := fun k => Nat.lt_of_le_of_lt (Nat.mod_le _ _) hn16
  have hS : va_S (blk b (b + 170)) s.heap s.heap [] := va_S.rf
  have hl := lv_entry ([.ref b, .int (nI n)]) (n := 5) (Nat.le_of_ble_eq_true rfl)
  rw [lg_entry_eq]
  generalize (lg_sl ([.ref b, .int (nI n)]) ++ List.replicate (5 - (lg_sl ([.ref b, .int (nI n)])).length) Slot.unset).toArray = ls at hl ⊢
  have hl : lv_has ls 5 [(0, .ref b), (1, .int (nI n))] := hl
  refine lv_iload_n hx hb dL_act_0 rfl (lv_at hl 1 rfl) ?_
  refine lv_bipush (v := 16) hx hb dL_act_1 (by decide) ?_
  refine idiv_n (a := n) (b := 16) hx hb ⟨hn, by decide, by decide⟩ dL_act_3 ?_
  refine lv_istore_n (lv' := [(2, .int (nI (n / 16))), (0, .ref b), (1, .int (nI n))]) hx hb dL_act_4 rfl hl (by decide) rfl (fun ls hl => ?_)
  refine lv_aload_n hx hb dL_act_5 rfl (lv_at hl 1 rfl) ?_
  refine lv_iconst (v := 2) hx hb dL_act_6 (by decide) ?_
  refine lv_iconst (v := 0) hx hb dL_act_7 (by decide) ?_
  refine lv_iconst (v := 0) hx hb dL_act_8 (by decide) ?_
  refine lv_iconst (v := 0) hx hb dL_act_9 (by decide) ?_
  refine cl_o1 (rSP (A := blk b (b + 170)) (As := [.ref b, .int 2, .int 0, .int 0, .int 0]) (rest := []) ⟨hx, hb, hml, hown, hts⟩ (c_call_2 l G b X 0 0 0 (nI (gm (mN M))) X hst (rd_ab0 RX)) (va_cwS 5 hts gL_act_L_call rfl rfl rfl (by decide +kernel) ⟨(Nat.le_of_ble_eq_true rfl), (Nat.le_of_ble_eq_true rfl)⟩) hP hO (thr_at hTh hS (fun q h => h)) hN rfl hl.1 (Nat.le_of_ble_eq_true rfl) dL_act_10 ⟨(Nat.le_of_ble_eq_true rfl), (Nat.le_of_ble_eq_true rfl)⟩) hS (fun q h => h) (fun H locs hP hS => ?_)
  refine lv_istore_n (lv' := [(3, .int (nI (gm (mN M)))), (2, .int (nI (n / 16))), (0, .ref b), (1, .int (nI n))]) hx hb dL_act_13 rfl hl (by decide) rfl (fun ls hl => ?_)
  refine lv_iload_n hx hb dL_act_14 rfl (lv_at hl 1 rfl) ?_
  refine lv_iload_n hx hb dL_act_15 rfl (lv_at hl 0 rfl) ?_
  refine irem_n (a := n / 16) (b := gm (mN M)) hx hb ⟨hn16, hg0, hg31⟩ dL_act_16 ?_
  refine lv_istore (lv' := [(4, .int (nI ((n / 16) % (gm (mN M))))), (3, .int (nI (gm (mN M)))), (2, .int (nI (n / 16))), (0, .ref b), (1, .int (nI n))]) hx hb dL_act_17 hl (by decide) rfl (fun ls hl => ?_)
  refine lv_iload_n hx hb dL_act_19 rfl (lv_at hl 4 rfl) ?_
  refine lv_bipush (v := 16) hx hb dL_act_20 (by decide) ?_
  refine irem_n (a := n) (b := 16) hx hb ⟨hn, by decide, by decide⟩ dL_act_22 ?_
  rw [hi]
  refine lv_tableIn (off := 103) (tgt := 126) hx hb dL_act_23 (by decide) (by decide) (by decide +kernel) (by decide) ?_
  refine lv_aload_n hx hb dL_act_126 rfl (lv_at hl 3 rfl) ?_
  refine lv_iload_n hx hb dL_act_127 rfl (lv_at hl 2 rfl) ?_
  refine lv_bipush (v := 80) hx hb dL_act_128 (by decide) ?_
  refine irem_n (a := n / 16) (b := 80) hx hb ⟨hn16, by decide, by decide⟩ dL_act_130 ?_
  refine lv_iload_n hx hb dL_act_131 rfl (lv_at hl 2 rfl) ?_
  refine lv_bipush (v := 80) hx hb dL_act_132 (by decide) ?_
  refine idiv_n (a := n / 16) (b := 80) hx hb ⟨hn16, by decide, by decide⟩ dL_act_134 ?_
  refine lv_iconst (v := 3) hx hb dL_act_135 (by decide) ?_
  refine irem_n (a := (n / 16) / 80) (b := 3) hx hb ⟨hnd 80, by decide, by decide⟩ dL_act_136 ?_
  refine lv_if_le (tgt := 144) hx hb dL_act_137 (by decide) (fun c1 => ?_) (fun c1 => ?_)
  · have c1f : ((n / 16) / 80) % 3 ≤ 0 := (nI_leI (a := ((n / 16) / 80) % 3) (b := 0) (by omega) (by omega)).mp c1
    refine lv_iconst (v := 0) hx hb dL_act_144 (by decide) ?_
    obtain ⟨u1, hu1⟩ : ∃ u : Nat, u = (n / 16) % 80 := ⟨_, rfl⟩
    rw [← hu1]
    have hq2 := (aq_hydrant (nI u1) 0 RX CX).1
    refine cl_w1 (xSW (A := blk b (b + 170)) (As := [.ref b, .int (nI u1), .int 0]) (rest := []) ⟨hx, hb, hml, hown, hts⟩ (w_L_hydrants l G b X (nI u1) 0 _ _ hst (RX).ho (RX).hk hq2) (vx_cwSW 3 hts gL_act_L_hydrants rfl rfl rfl (by decide +kernel) ⟨(Nat.le_of_ble_eq_true rfl), (Nat.le_of_ble_eq_true rfl)⟩) hP hO (thr_at hTh hS (fun q h => h)) hN rfl hl.1 (Nat.le_of_ble_eq_true rfl) dL_act_145 ⟨(Nat.le_of_ble_eq_true rfl), (Nat.le_of_ble_eq_true rfl)⟩) hS (fun q h => h) (fun H locs hP hS => ?_)
    have hF : fact M n = ((rvE kIOO kISE (h_X7_hydrant M (nI u1) 0)), (h_X7_hydrant M (nI u1) 0).2) := by rw [fact_5 hi, if_neg (Nat.not_lt.mpr c1f), hu1]
    exact W.widen (k := 2) (n := 12) (Nat.le_of_ble_eq_true rfl) (Nat.le_of_ble_eq_true rfl) (W.iret hx hb hr (fun t ht hW => ⟨(by rw [fin1 hF]), by rw [ht]; exact ⟨_, hP, fin2 hF ((aq_hydrant (nI u1) 0 RX CX).2.1), ((aq_hydrant (nI u1) 0 RX CX).2.2)⟩, hS.F ht⟩) hS.2.2 dL_act_148)
  · have c1f : ¬ (((n / 16) / 80) % 3) ≤ 0 := fun z => c1 ((nI_leI (a := ((n / 16) / 80) % 3) (b := 0) (by omega) (by omega)).mpr z)
    refine lv_iconst (v := 1) hx hb dL_act_140 (by decide) ?_
    refine lv_goto (tgt := 145) hx hb dL_act_141 (by decide) ?_
    obtain ⟨u1, hu1⟩ : ∃ u : Nat, u = (n / 16) % 80 := ⟨_, rfl⟩
    rw [← hu1]
    have hq3 := (aq_hydrant (nI u1) 1 RX CX).1
    refine cl_w1 (xSW (A := blk b (b + 170)) (As := [.ref b, .int (nI u1), .int 1]) (rest := []) ⟨hx, hb, hml, hown, hts⟩ (w_L_hydrants l G b X (nI u1) 1 _ _ hst (RX).ho (RX).hk hq3) (vx_cwSW 3 hts gL_act_L_hydrants rfl rfl rfl (by decide +kernel) ⟨(Nat.le_of_ble_eq_true rfl), (Nat.le_of_ble_eq_true rfl)⟩) hP hO (thr_at hTh hS (fun q h => h)) hN rfl hl.1 (Nat.le_of_ble_eq_true rfl) dL_act_145 ⟨(Nat.le_of_ble_eq_true rfl), (Nat.le_of_ble_eq_true rfl)⟩) hS (fun q h => h) (fun H locs hP hS => ?_)
    have hF : fact M n = ((rvE kIOO kISE (h_X7_hydrant M (nI u1) 1)), (h_X7_hydrant M (nI u1) 1).2) := by rw [fact_5 hi, if_pos (Nat.lt_of_not_le c1f), hu1]
    exact W.widen (k := 2) (n := 12) (Nat.le_of_ble_eq_true rfl) (Nat.le_of_ble_eq_true rfl) (W.iret hx hb hr (fun t ht hW => ⟨(by rw [fin1 hF]), by rw [ht]; exact ⟨_, hP, fin2 hF ((aq_hydrant (nI u1) 1 RX CX).2.1), ((aq_hydrant (nI u1) 1 RX CX).2.2)⟩, hS.F ht⟩) hS.2.2 dL_act_148)

set_option maxHeartbeats 4000000 in
set_option maxRecDepth 100000 in
theorem c_L_act_6 (l : Launch) (G : GG) (b : Nat) (X : Cx) (M : Mo) (n : Nat) (hst : l.stackTraces = false) (RX : RelX X M) (CX : Ch X) (hn : n < 2 ^ 31) (hi : n % 16 = 6) : Met l yL_act wsL_act ({ frames := 12, cells := 2, slots := 12, locals := 210 }) (PcN G (blk b (b + 170)) [.ref b, .int (nI n)] (Cb G b X)) (QM (some (.int ((fact M n).1))) (fun H => ∃ X1, Cb G b X1 H ∧ RelX X1 (fact M n).2 ∧ Ch X1) (blk b (b + 170))) 2 12 (blk b (b + 170)) := by
  refine metN (cc := cL_act) (maxL := 5) (ret := (some .int)) (by decide) rfl ?_
  intro p e s m below meth cd hx hb hr hml hown hts hlocks hP hO hTh hN
  have hg2 : 2 ≤ gm (mN M) := by rw [← nm_gm RX]; exact CX.1
  have hg40 := RX.nw.2.ri.m.2
  have hg0 : 0 < gm (mN M) := Nat.lt_of_lt_of_le (by decide) hg2
  have hg31 : gm (mN M) < 2 ^ 31 := Nat.lt_of_le_of_lt hg40 (by decide)
  have hn16 : n / 16 < 2 ^ 31 := Nat.lt_of_le_of_lt (Nat.div_le_self _ _) hn
  have hnd : ∀ k, n / 16 / k < 2 ^ 31 := fun k => Nat.lt_of_le_of_lt (Nat.div_le_self _ _) hn16
  have hnm : ∀ k, n / 16 % k < 2 ^ 31 := fun k => Nat.lt_of_le_of_lt (Nat.mod_le _ _) hn16
  have hS : va_S (blk b (b + 170)) s.heap s.heap [] := va_S.rf
  have hl := lv_entry ([.ref b, .int (nI n)]) (n := 5) (Nat.le_of_ble_eq_true rfl)
  rw [lg_entry_eq]
  generalize (lg_sl ([.ref b, .int (nI n)]) ++ List.replicate (5 - (lg_sl ([.ref b, .int (nI n)])).length) Slot.unset).toArray = ls at hl ⊢
  have hl : lv_has ls 5 [(0, .ref b), (1, .int (nI n))] := hl
  refine lv_iload_n hx hb dL_act_0 rfl (lv_at hl 1 rfl) ?_
  refine lv_bipush (v := 16) hx hb dL_act_1 (by decide) ?_
  refine idiv_n (a := n) (b := 16) hx hb ⟨hn, by decide, by decide⟩ dL_act_3 ?_
  refine lv_istore_n (lv' := [(2, .int (nI (n / 16))), (0, .ref b), (1, .int (nI n))]) hx hb dL_act_4 rfl hl (by decide) rfl (fun ls hl => ?_)
  refine lv_aload_n hx hb dL_act_5 rfl (lv_at hl 1 rfl) ?_
  refine lv_iconst (v := 2) hx hb dL_act_6 (by decide) ?_
  refine lv_iconst (v := 0) hx hb dL_act_7 (by decide) ?_
  refine lv_iconst (v := 0) hx hb dL_act_8 (by decide) ?_
  refine lv_iconst (v := 0) hx hb dL_act_9 (by decide) ?_
  refine cl_o1 (rSP (A := blk b (b + 170)) (As := [.ref b, .int 2, .int 0, .int 0, .int 0]) (rest := []) ⟨hx, hb, hml, hown, hts⟩ (c_call_2 l G b X 0 0 0 (nI (gm (mN M))) X hst (rd_ab0 RX)) (va_cwS 5 hts gL_act_L_call rfl rfl rfl (by decide +kernel) ⟨(Nat.le_of_ble_eq_true rfl), (Nat.le_of_ble_eq_true rfl)⟩) hP hO (thr_at hTh hS (fun q h => h)) hN rfl hl.1 (Nat.le_of_ble_eq_true rfl) dL_act_10 ⟨(Nat.le_of_ble_eq_true rfl), (Nat.le_of_ble_eq_true rfl)⟩) hS (fun q h => h) (fun H locs hP hS => ?_)
  refine lv_istore_n (lv' := [(3, .int (nI (gm (mN M)))), (2, .int (nI (n / 16))), (0, .ref b), (1, .int (nI n))]) hx hb dL_act_13 rfl hl (by decide) rfl (fun ls hl => ?_)
  refine lv_iload_n hx hb dL_act_14 rfl (lv_at hl 1 rfl) ?_
  refine lv_iload_n hx hb dL_act_15 rfl (lv_at hl 0 rfl) ?_
  refine irem_n (a := n / 16) (b := gm (mN M)) hx hb ⟨hn16, hg0, hg31⟩ dL_act_16 ?_
  refine lv_istore (lv' := [(4, .int (nI ((n / 16) % (gm (mN M))))), (3, .int (nI (gm (mN M)))), (2, .int (nI (n / 16))), (0, .ref b), (1, .int (nI n))]) hx hb dL_act_17 hl (by decide) rfl (fun ls hl => ?_)
  refine lv_iload_n hx hb dL_act_19 rfl (lv_at hl 4 rfl) ?_
  refine lv_bipush (v := 16) hx hb dL_act_20 (by decide) ?_
  refine irem_n (a := n) (b := 16) hx hb ⟨hn, by decide, by decide⟩ dL_act_22 ?_
  rw [hi]
  refine lv_tableIn (off := 126) (tgt := 149) hx hb dL_act_23 (by decide) (by decide) (by decide +kernel) (by decide) ?_
  refine lv_aload_n hx hb dL_act_149 rfl (lv_at hl 3 rfl) ?_
  refine lv_bipush (v := 8) hx hb dL_act_150 (by decide) ?_
  refine lv_iload hx hb dL_act_152 (lv_at hl 0 rfl) ?_
  refine lv_iconst (v := 0) hx hb dL_act_154 (by decide) ?_
  refine lv_iconst (v := 0) hx hb dL_act_155 (by decide) ?_
  obtain ⟨u1, hu1⟩ : ∃ u : Nat, u = (n / 16) % (gm (mN M)) := ⟨_, rfl⟩
  rw [← hu1]
  have hq1 := (aq_leave (nI u1) RX CX).1
  refine cl_o1 (rSP (A := blk b (b + 170)) (As := [.ref b, .int 8, .int (nI u1), .int 0, .int 0]) (rest := []) ⟨hx, hb, hml, hown, hts⟩ (c_call_8 l G b X (nI u1) 0 0 _ _ hst (RX).ho (RX).hk hq1) (va_cwS 5 hts gL_act_L_call rfl rfl rfl (by decide +kernel) ⟨(Nat.le_of_ble_eq_true rfl), (Nat.le_of_ble_eq_true rfl)⟩) hP hO (thr_at hTh hS (fun q h => h)) hN rfl hl.1 (Nat.le_of_ble_eq_true rfl) dL_act_156 ⟨(Nat.le_of_ble_eq_true rfl), (Nat.le_of_ble_eq_true rfl)⟩) hS (fun q h => h) (fun H locs hP hS => ?_)
  have hF : fact M n = ((rvE kIOO kISE (h_X7_leave M (nI u1))), (h_X7_leave M (nI u1)).2) := by rw [fact_6 hi, hu1]
  exact W.widen (k := 2) (n := 12) (Nat.le_of_ble_eq_true rfl) (Nat.le_of_ble_eq_true rfl) (W.iret hx hb hr (fun t ht hW => ⟨(by rw [fin1 hF]), by rw [ht]; exact ⟨_, hP, fin2 hF ((aq_leave (nI u1) RX CX).2.1), ((aq_leave (nI u1) RX CX).2.2)⟩, hS.F ht⟩) hS.2.2 dL_act_159)

set_option maxHeartbeats 4000000 in
set_option maxRecDepth 100000 in
theorem c_L_act_7 (l : Launch) (G : GG) (b : Nat) (X : Cx) (M : Mo) (n : Nat) (hst : l.stackTraces = false) (RX : RelX X M) (CX : Ch X) (hn : n < 2 ^ 31) (hi : n % 16 = 7) : Met l yL_act wsL_act ({ frames := 12, cells := 2, slots := 12, locals := 210 }) (PcN G (blk b (b + 170)) [.ref b, .int (nI n)] (Cb G b X)) (QM (some (.int ((fact M n).1))) (fun H => ∃ X1, Cb G b X1 H ∧ RelX X1 (fact M n).2 ∧ Ch X1) (blk b (b + 170))) 2 12 (blk b (b + 170)) := by
  refine metN (cc := cL_act) (maxL := 5) (ret := (some .int)) (by decide) rfl ?_
  intro p e s m below meth cd hx hb hr hml hown hts hlocks hP hO hTh hN
  have hg2 : 2 ≤ gm (mN M) := by rw [← nm_gm RX]; exact CX.1
  have hg40 := RX.nw.2.ri.m.2
  have hg0 : 0 < gm (mN M) := Nat.lt_of_lt_of_le (by decide) hg2
  have hg31 : gm (mN M) < 2 ^ 31 := Nat.lt_of_le_of_lt hg40 (by decide)
  have hn16 : n / 16 < 2 ^ 31 := Nat.lt_of_le_of_lt (Nat.div_le_self _ _) hn
  have hnd : ∀ k, n / 16 / k < 2 ^ 31 := fun k => Nat.lt_of_le_of_lt (Nat.div_le_self _ _) hn16
  have hnm : ∀ k, n / 16 % k < 2 ^ 31 := fun k => Nat.lt_of_le_of_lt (Nat.mod_le _ _) hn16
  have hS : va_S (blk b (b + 170)) s.heap s.heap [] := va_S.rf
  have hl := lv_entry ([.ref b, .int (nI n)]) (n := 5) (Nat.le_of_ble_eq_true rfl)
  rw [lg_entry_eq]
  generalize (lg_sl ([.ref b, .int (nI n)]) ++ List.replicate (5 - (lg_sl ([.ref b, .int (nI n)])).length) Slot.unset).toArray = ls at hl ⊢
  have hl : lv_has ls 5 [(0, .ref b), (1, .int (nI n))] := hl
  refine lv_iload_n hx hb dL_act_0 rfl (lv_at hl 1 rfl) ?_
  refine lv_bipush (v := 16) hx hb dL_act_1 (by decide) ?_
  refine idiv_n (a := n) (b := 16) hx hb ⟨hn, by decide, by decide⟩ dL_act_3 ?_
  refine lv_istore_n (lv' := [(2, .int (nI (n / 16))), (0, .ref b), (1, .int (nI n))]) hx hb dL_act_4 rfl hl (by decide) rfl (fun ls hl => ?_)
  refine lv_aload_n hx hb dL_act_5 rfl (lv_at hl 1 rfl) ?_
  refine lv_iconst (v := 2) hx hb dL_act_6 (by decide) ?_
  refine lv_iconst (v := 0) hx hb dL_act_7 (by decide) ?_
  refine lv_iconst (v := 0) hx hb dL_act_8 (by decide) ?_
  refine lv_iconst (v := 0) hx hb dL_act_9 (by decide) ?_
  refine cl_o1 (rSP (A := blk b (b + 170)) (As := [.ref b, .int 2, .int 0, .int 0, .int 0]) (rest := []) ⟨hx, hb, hml, hown, hts⟩ (c_call_2 l G b X 0 0 0 (nI (gm (mN M))) X hst (rd_ab0 RX)) (va_cwS 5 hts gL_act_L_call rfl rfl rfl (by decide +kernel) ⟨(Nat.le_of_ble_eq_true rfl), (Nat.le_of_ble_eq_true rfl)⟩) hP hO (thr_at hTh hS (fun q h => h)) hN rfl hl.1 (Nat.le_of_ble_eq_true rfl) dL_act_10 ⟨(Nat.le_of_ble_eq_true rfl), (Nat.le_of_ble_eq_true rfl)⟩) hS (fun q h => h) (fun H locs hP hS => ?_)
  refine lv_istore_n (lv' := [(3, .int (nI (gm (mN M)))), (2, .int (nI (n / 16))), (0, .ref b), (1, .int (nI n))]) hx hb dL_act_13 rfl hl (by decide) rfl (fun ls hl => ?_)
  refine lv_iload_n hx hb dL_act_14 rfl (lv_at hl 1 rfl) ?_
  refine lv_iload_n hx hb dL_act_15 rfl (lv_at hl 0 rfl) ?_
  refine irem_n (a := n / 16) (b := gm (mN M)) hx hb ⟨hn16, hg0, hg31⟩ dL_act_16 ?_
  refine lv_istore (lv' := [(4, .int (nI ((n / 16) % (gm (mN M))))), (3, .int (nI (gm (mN M)))), (2, .int (nI (n / 16))), (0, .ref b), (1, .int (nI n))]) hx hb dL_act_17 hl (by decide) rfl (fun ls hl => ?_)
  refine lv_iload_n hx hb dL_act_19 rfl (lv_at hl 4 rfl) ?_
  refine lv_bipush (v := 16) hx hb dL_act_20 (by decide) ?_
  refine irem_n (a := n) (b := 16) hx hb ⟨hn, by decide, by decide⟩ dL_act_22 ?_
  rw [hi]
  refine lv_tableIn (off := 137) (tgt := 160) hx hb dL_act_23 (by decide) (by decide) (by decide +kernel) (by decide) ?_
  refine lv_aload_n hx hb dL_act_160 rfl (lv_at hl 3 rfl) ?_
  refine lv_bipush (v := 9) hx hb dL_act_161 (by decide) ?_
  refine lv_iload hx hb dL_act_163 (lv_at hl 0 rfl) ?_
  refine lv_iconst (v := 0) hx hb dL_act_165 (by decide) ?_
  refine lv_iconst (v := 0) hx hb dL_act_166 (by decide) ?_
  obtain ⟨u1, hu1⟩ : ∃ u : Nat, u = (n / 16) % (gm (mN M)) := ⟨_, rfl⟩
  rw [← hu1]
  have hq1 := (aq_tow (nI u1) RX CX).1
  refine cl_o1 (rSP (A := blk b (b + 170)) (As := [.ref b, .int 9, .int (nI u1), .int 0, .int 0]) (rest := []) ⟨hx, hb, hml, hown, hts⟩ (c_call_9 l G b X (nI u1) 0 0 _ _ hst (RX).ho (RX).hk hq1) (va_cwS 5 hts gL_act_L_call rfl rfl rfl (by decide +kernel) ⟨(Nat.le_of_ble_eq_true rfl), (Nat.le_of_ble_eq_true rfl)⟩) hP hO (thr_at hTh hS (fun q h => h)) hN rfl hl.1 (Nat.le_of_ble_eq_true rfl) dL_act_167 ⟨(Nat.le_of_ble_eq_true rfl), (Nat.le_of_ble_eq_true rfl)⟩) hS (fun q h => h) (fun H locs hP hS => ?_)
  have hF : fact M n = ((rvE kIOO kISE (h_X7_tow M (nI u1))), (h_X7_tow M (nI u1)).2) := by rw [fact_7 hi, hu1]
  exact W.widen (k := 2) (n := 12) (Nat.le_of_ble_eq_true rfl) (Nat.le_of_ble_eq_true rfl) (W.iret hx hb hr (fun t ht hW => ⟨(by rw [fin1 hF]), by rw [ht]; exact ⟨_, hP, fin2 hF ((aq_tow (nI u1) RX CX).2.1), ((aq_tow (nI u1) RX CX).2.2)⟩, hS.F ht⟩) hS.2.2 dL_act_170)

set_option maxHeartbeats 4000000 in
set_option maxRecDepth 100000 in
theorem c_L_act_8 (l : Launch) (G : GG) (b : Nat) (X : Cx) (M : Mo) (n : Nat) (hst : l.stackTraces = false) (RX : RelX X M) (CX : Ch X) (hn : n < 2 ^ 31) (hi : n % 16 = 8) : Met l yL_act wsL_act ({ frames := 12, cells := 2, slots := 12, locals := 210 }) (PcN G (blk b (b + 170)) [.ref b, .int (nI n)] (Cb G b X)) (QM (some (.int ((fact M n).1))) (fun H => ∃ X1, Cb G b X1 H ∧ RelX X1 (fact M n).2 ∧ Ch X1) (blk b (b + 170))) 2 12 (blk b (b + 170)) := by
  refine metN (cc := cL_act) (maxL := 5) (ret := (some .int)) (by decide) rfl ?_
  intro p e s m below meth cd hx hb hr hml hown hts hlocks hP hO hTh hN
  have hg2 : 2 ≤ gm (mN M) := by rw [← nm_gm RX]; exact CX.1
  have hg40 := RX.nw.2.ri.m.2
  have hg0 : 0 < gm (mN M) := Nat.lt_of_lt_of_le (by decide) hg2
  have hg31 : gm (mN M) < 2 ^ 31 := Nat.lt_of_le_of_lt hg40 (by decide)
  have hn16 : n / 16 < 2 ^ 31 := Nat.lt_of_le_of_lt (Nat.div_le_self _ _) hn
  have hnd : ∀ k, n / 16 / k < 2 ^ 31 := fun k => Nat.lt_of_le_of_lt (Nat.div_le_self _ _) hn16
  have hnm : ∀ k, n / 16 % k < 2 ^ 31 := fun k => Nat.lt_of_le_of_lt (Nat.mod_le _ _) hn16
  have hS : va_S (blk b (b + 170)) s.heap s.heap [] := va_S.rf
  have hl := lv_entry ([.ref b, .int (nI n)]) (n := 5) (Nat.le_of_ble_eq_true rfl)
  rw [lg_entry_eq]
  generalize (lg_sl ([.ref b, .int (nI n)]) ++ List.replicate (5 - (lg_sl ([.ref b, .int (nI n)])).length) Slot.unset).toArray = ls at hl ⊢
  have hl : lv_has ls 5 [(0, .ref b), (1, .int (nI n))] := hl
  refine lv_iload_n hx hb dL_act_0 rfl (lv_at hl 1 rfl) ?_
  refine lv_bipush (v := 16) hx hb dL_act_1 (by decide) ?_
  refine idiv_n (a := n) (b := 16) hx hb ⟨hn, by decide, by decide⟩ dL_act_3 ?_
  refine lv_istore_n (lv' := [(2, .int (nI (n / 16))), (0, .ref b), (1, .int (nI n))]) hx hb dL_act_4 rfl hl (by decide) rfl (fun ls hl => ?_)
  refine lv_aload_n hx hb dL_act_5 rfl (lv_at hl 1 rfl) ?_
  refine lv_iconst (v := 2) hx hb dL_act_6 (by decide) ?_
  refine lv_iconst (v := 0) hx hb dL_act_7 (by decide) ?_
  refine lv_iconst (v := 0) hx hb dL_act_8 (by decide) ?_
  refine lv_iconst (v := 0) hx hb dL_act_9 (by decide) ?_
  refine cl_o1 (rSP (A := blk b (b + 170)) (As := [.ref b, .int 2, .int 0, .int 0, .int 0]) (rest := []) ⟨hx, hb, hml, hown, hts⟩ (c_call_2 l G b X 0 0 0 (nI (gm (mN M))) X hst (rd_ab0 RX)) (va_cwS 5 hts gL_act_L_call rfl rfl rfl (by decide +kernel) ⟨(Nat.le_of_ble_eq_true rfl), (Nat.le_of_ble_eq_true rfl)⟩) hP hO (thr_at hTh hS (fun q h => h)) hN rfl hl.1 (Nat.le_of_ble_eq_true rfl) dL_act_10 ⟨(Nat.le_of_ble_eq_true rfl), (Nat.le_of_ble_eq_true rfl)⟩) hS (fun q h => h) (fun H locs hP hS => ?_)
  refine lv_istore_n (lv' := [(3, .int (nI (gm (mN M)))), (2, .int (nI (n / 16))), (0, .ref b), (1, .int (nI n))]) hx hb dL_act_13 rfl hl (by decide) rfl (fun ls hl => ?_)
  refine lv_iload_n hx hb dL_act_14 rfl (lv_at hl 1 rfl) ?_
  refine lv_iload_n hx hb dL_act_15 rfl (lv_at hl 0 rfl) ?_
  refine irem_n (a := n / 16) (b := gm (mN M)) hx hb ⟨hn16, hg0, hg31⟩ dL_act_16 ?_
  refine lv_istore (lv' := [(4, .int (nI ((n / 16) % (gm (mN M))))), (3, .int (nI (gm (mN M)))), (2, .int (nI (n / 16))), (0, .ref b), (1, .int (nI n))]) hx hb dL_act_17 hl (by decide) rfl (fun ls hl => ?_)
  refine lv_iload_n hx hb dL_act_19 rfl (lv_at hl 4 rfl) ?_
  refine lv_bipush (v := 16) hx hb dL_act_20 (by decide) ?_
  refine irem_n (a := n) (b := 16) hx hb ⟨hn, by decide, by decide⟩ dL_act_22 ?_
  rw [hi]
  refine lv_tableIn (off := 148) (tgt := 171) hx hb dL_act_23 (by decide) (by decide) (by decide +kernel) (by decide) ?_
  refine lv_aload_n hx hb dL_act_171 rfl (lv_at hl 3 rfl) ?_
  refine lv_bipush (v := 10) hx hb dL_act_172 (by decide) ?_
  refine lv_iload hx hb dL_act_174 (lv_at hl 0 rfl) ?_
  refine lv_iload_n hx hb dL_act_176 rfl (lv_at hl 2 rfl) ?_
  refine lv_bipush (v := 40) hx hb dL_act_177 (by decide) ?_
  refine idiv_n (a := n / 16) (b := 40) hx hb ⟨hn16, by decide, by decide⟩ dL_act_179 ?_
  refine lv_bipush (v := 80) hx hb dL_act_180 (by decide) ?_
  refine irem_n (a := (n / 16) / 40) (b := 80) hx hb ⟨hnd 40, by decide, by decide⟩ dL_act_182 ?_
  refine lv_iconst (v := 0) hx hb dL_act_183 (by decide) ?_
  obtain ⟨u1, hu1⟩ : ∃ u : Nat, u = (n / 16) % (gm (mN M)) := ⟨_, rfl⟩
  rw [← hu1]
  obtain ⟨u2, hu2⟩ : ∃ u : Nat, u = ((n / 16) / 40) % 80 := ⟨_, rfl⟩
  rw [← hu2]
  have hq1 := (aq_move (nI u1) (nI u2) RX CX).1
  refine cl_o1 (rSP (A := blk b (b + 170)) (As := [.ref b, .int 10, .int (nI u1), .int (nI u2), .int 0]) (rest := []) ⟨hx, hb, hml, hown, hts⟩ (c_call_10 l G b X (nI u1) (nI u2) 0 _ _ hst (RX).ho (RX).hk hq1) (va_cwS 5 hts gL_act_L_call rfl rfl rfl (by decide +kernel) ⟨(Nat.le_of_ble_eq_true rfl), (Nat.le_of_ble_eq_true rfl)⟩) hP hO (thr_at hTh hS (fun q h => h)) hN rfl hl.1 (Nat.le_of_ble_eq_true rfl) dL_act_184 ⟨(Nat.le_of_ble_eq_true rfl), (Nat.le_of_ble_eq_true rfl)⟩) hS (fun q h => h) (fun H locs hP hS => ?_)
  have hF : fact M n = ((rvE kIOO kISE (h_X7_move M (nI u1) (nI u2))), (h_X7_move M (nI u1) (nI u2)).2) := by rw [fact_8 hi, hu1, hu2]
  exact W.widen (k := 2) (n := 12) (Nat.le_of_ble_eq_true rfl) (Nat.le_of_ble_eq_true rfl) (W.iret hx hb hr (fun t ht hW => ⟨(by rw [fin1 hF]), by rw [ht]; exact ⟨_, hP, fin2 hF ((aq_move (nI u1) (nI u2) RX CX).2.1), ((aq_move (nI u1) (nI u2) RX CX).2.2)⟩, hS.F ht⟩) hS.2.2 dL_act_187)

set_option maxHeartbeats 4000000 in
set_option maxRecDepth 100000 in
theorem c_L_act_9 (l : Launch) (G : GG) (b : Nat) (X : Cx) (M : Mo) (n : Nat) (hst : l.stackTraces = false) (RX : RelX X M) (CX : Ch X) (hn : n < 2 ^ 31) (hi : n % 16 = 9) : Met l yL_act wsL_act ({ frames := 12, cells := 2, slots := 12, locals := 210 }) (PcN G (blk b (b + 170)) [.ref b, .int (nI n)] (Cb G b X)) (QM (some (.int ((fact M n).1))) (fun H => ∃ X1, Cb G b X1 H ∧ RelX X1 (fact M n).2 ∧ Ch X1) (blk b (b + 170))) 2 12 (blk b (b + 170)) := by
  refine metN (cc := cL_act) (maxL := 5) (ret := (some .int)) (by decide) rfl ?_
  intro p e s m below meth cd hx hb hr hml hown hts hlocks hP hO hTh hN
  have hg2 : 2 ≤ gm (mN M) := by rw [← nm_gm RX]; exact CX.1
  have hg40 := RX.nw.2.ri.m.2
  have hg0 : 0 < gm (mN M) := Nat.lt_of_lt_of_le (by decide) hg2
  have hg31 : gm (mN M) < 2 ^ 31 := Nat.lt_of_le_of_lt hg40 (by decide)
  have hn16 : n / 16 < 2 ^ 31 := Nat.lt_of_le_of_lt (Nat.div_le_self _ _) hn
  have hnd : ∀ k, n / 16 / k < 2 ^ 31 := fun k => Nat.lt_of_le_of_lt (Nat.div_le_self _ _) hn16
  have hnm : ∀ k, n / 16 % k < 2 ^ 31 := fun k => Nat.lt_of_le_of_lt (Nat.mod_le _ _) hn16
  have hS : va_S (blk b (b + 170)) s.heap s.heap [] := va_S.rf
  have hl := lv_entry ([.ref b, .int (nI n)]) (n := 5) (Nat.le_of_ble_eq_true rfl)
  rw [lg_entry_eq]
  generalize (lg_sl ([.ref b, .int (nI n)]) ++ List.replicate (5 - (lg_sl ([.ref b, .int (nI n)])).length) Slot.unset).toArray = ls at hl ⊢
  have hl : lv_has ls 5 [(0, .ref b), (1, .int (nI n))] := hl
  refine lv_iload_n hx hb dL_act_0 rfl (lv_at hl 1 rfl) ?_
  refine lv_bipush (v := 16) hx hb dL_act_1 (by decide) ?_
  refine idiv_n (a := n) (b := 16) hx hb ⟨hn, by decide, by decide⟩ dL_act_3 ?_
  refine lv_istore_n (lv' := [(2, .int (nI (n / 16))), (0, .ref b), (1, .int (nI n))]) hx hb dL_act_4 rfl hl (by decide) rfl (fun ls hl => ?_)
  refine lv_aload_n hx hb dL_act_5 rfl (lv_at hl 1 rfl) ?_
  refine lv_iconst (v := 2) hx hb dL_act_6 (by decide) ?_
  refine lv_iconst (v := 0) hx hb dL_act_7 (by decide) ?_
  refine lv_iconst (v := 0) hx hb dL_act_8 (by decide) ?_
  refine lv_iconst (v := 0) hx hb dL_act_9 (by decide) ?_
  refine cl_o1 (rSP (A := blk b (b + 170)) (As := [.ref b, .int 2, .int 0, .int 0, .int 0]) (rest := []) ⟨hx, hb, hml, hown, hts⟩ (c_call_2 l G b X 0 0 0 (nI (gm (mN M))) X hst (rd_ab0 RX)) (va_cwS 5 hts gL_act_L_call rfl rfl rfl (by decide +kernel) ⟨(Nat.le_of_ble_eq_true rfl), (Nat.le_of_ble_eq_true rfl)⟩) hP hO (thr_at hTh hS (fun q h => h)) hN rfl hl.1 (Nat.le_of_ble_eq_true rfl) dL_act_10 ⟨(Nat.le_of_ble_eq_true rfl), (Nat.le_of_ble_eq_true rfl)⟩) hS (fun q h => h) (fun H locs hP hS => ?_)
  refine lv_istore_n (lv' := [(3, .int (nI (gm (mN M)))), (2, .int (nI (n / 16))), (0, .ref b), (1, .int (nI n))]) hx hb dL_act_13 rfl hl (by decide) rfl (fun ls hl => ?_)
  refine lv_iload_n hx hb dL_act_14 rfl (lv_at hl 1 rfl) ?_
  refine lv_iload_n hx hb dL_act_15 rfl (lv_at hl 0 rfl) ?_
  refine irem_n (a := n / 16) (b := gm (mN M)) hx hb ⟨hn16, hg0, hg31⟩ dL_act_16 ?_
  refine lv_istore (lv' := [(4, .int (nI ((n / 16) % (gm (mN M))))), (3, .int (nI (gm (mN M)))), (2, .int (nI (n / 16))), (0, .ref b), (1, .int (nI n))]) hx hb dL_act_17 hl (by decide) rfl (fun ls hl => ?_)
  refine lv_iload_n hx hb dL_act_19 rfl (lv_at hl 4 rfl) ?_
  refine lv_bipush (v := 16) hx hb dL_act_20 (by decide) ?_
  refine irem_n (a := n) (b := 16) hx hb ⟨hn, by decide, by decide⟩ dL_act_22 ?_
  rw [hi]
  refine lv_tableIn (off := 148) (tgt := 171) hx hb dL_act_23 (by decide) (by decide) (by decide +kernel) (by decide) ?_
  refine lv_aload_n hx hb dL_act_171 rfl (lv_at hl 3 rfl) ?_
  refine lv_bipush (v := 10) hx hb dL_act_172 (by decide) ?_
  refine lv_iload hx hb dL_act_174 (lv_at hl 0 rfl) ?_
  refine lv_iload_n hx hb dL_act_176 rfl (lv_at hl 2 rfl) ?_
  refine lv_bipush (v := 40) hx hb dL_act_177 (by decide) ?_
  refine idiv_n (a := n / 16) (b := 40) hx hb ⟨hn16, by decide, by decide⟩ dL_act_179 ?_
  refine lv_bipush (v := 80) hx hb dL_act_180 (by decide) ?_
  refine irem_n (a := (n / 16) / 40) (b := 80) hx hb ⟨hnd 40, by decide, by decide⟩ dL_act_182 ?_
  refine lv_iconst (v := 0) hx hb dL_act_183 (by decide) ?_
  obtain ⟨u1, hu1⟩ : ∃ u : Nat, u = (n / 16) % (gm (mN M)) := ⟨_, rfl⟩
  rw [← hu1]
  obtain ⟨u2, hu2⟩ : ∃ u : Nat, u = ((n / 16) / 40) % 80 := ⟨_, rfl⟩
  rw [← hu2]
  have hq1 := (aq_move (nI u1) (nI u2) RX CX).1
  refine cl_o1 (rSP (A := blk b (b + 170)) (As := [.ref b, .int 10, .int (nI u1), .int (nI u2), .int 0]) (rest := []) ⟨hx, hb, hml, hown, hts⟩ (c_call_10 l G b X (nI u1) (nI u2) 0 _ _ hst (RX).ho (RX).hk hq1) (va_cwS 5 hts gL_act_L_call rfl rfl rfl (by decide +kernel) ⟨(Nat.le_of_ble_eq_true rfl), (Nat.le_of_ble_eq_true rfl)⟩) hP hO (thr_at hTh hS (fun q h => h)) hN rfl hl.1 (Nat.le_of_ble_eq_true rfl) dL_act_184 ⟨(Nat.le_of_ble_eq_true rfl), (Nat.le_of_ble_eq_true rfl)⟩) hS (fun q h => h) (fun H locs hP hS => ?_)
  have hF : fact M n = ((rvE kIOO kISE (h_X7_move M (nI u1) (nI u2))), (h_X7_move M (nI u1) (nI u2)).2) := by rw [fact_9 hi, hu1, hu2]
  exact W.widen (k := 2) (n := 12) (Nat.le_of_ble_eq_true rfl) (Nat.le_of_ble_eq_true rfl) (W.iret hx hb hr (fun t ht hW => ⟨(by rw [fin1 hF]), by rw [ht]; exact ⟨_, hP, fin2 hF ((aq_move (nI u1) (nI u2) RX CX).2.1), ((aq_move (nI u1) (nI u2) RX CX).2.2)⟩, hS.F ht⟩) hS.2.2 dL_act_187)
