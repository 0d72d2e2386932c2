set_option maxHeartbeats 4000000 in
set_option maxRecDepth 100000 in
theorem c_L_act_0 (l : Launch) (G : GG) (b : Nat) (X : Cx) (M : Mo) (n : Nat) (hst : l.stackTraces = false) (RX : RelX X M) (CX : Ch X) (hn : n < 2 ^ 31) (hi : n % 16 = 0) : Met l yL_act wsL_act ({ frames := 12, cells := 2, slots := 12, locals := 210 }) (PcN G (blk b (b + 170)) [.ref b, .int (nI n)] (Cb G b X)) (QM (some (.int ((fact M n).1))) (fun H => ∃ X1, Cb G b X1 H ∧ RelX X1 (fact M n).2 ∧ Ch X1) (blk b (b + 170))) 2 12 (blk b (b + 170)) := by
  refine metN (cc := cL_act) (maxL := 5) (ret := (some .int)) (by decide) rfl ?_
  intro p e s m below meth cd hx hb hr hml hown hts hlocks hP hO hTh hN
  have hg2 : 2 ≤ gm (mN M) := by rw [← nm_gm RX]; exact CX.1
  have hg40 := RX.nw.2.ri.m.2
  have hg0 : 0 < gm (mN M) := Nat.lt_of_lt_of_le (by decide) hg2
  have hg31 : gm (mN M) < 2 ^ 31 := Nat.lt_of_le_of_lt hg40 (by decide)
  have hn16 : n / 16 < 2 ^ 31 := Nat.lt_of_le_of_lt (Nat.div_le_self _ _) hn
  have hnd : ∀ k, n / 16 / k < 2 ^ 31 := fun k => Nat.lt_of_le_of_lt (Nat.div_le_self _ _) hn16
  have hnm : ∀ k, n / 16 % k < 2 ^ 31 := fun k => Nat.lt_of_le_of_lt (Nat.mod_le _ _) hn16
  have hS : va_S (blk b (b + 170)) s.heap s.heap [] := va_S.rf
  have hl := lv_entry ([.ref b, .int (nI n)]) (n := 5) (Nat.le_of_ble_eq_true rfl)
  rw [lg_entry_eq]
  generalize (lg_sl ([.ref b, .int (nI n)]) ++ List.replicate (5 - (lg_sl ([.ref b, .int (nI n)])).length) Slot.unset).toArray = ls at hl ⊢
  have hl : lv_has ls 5 [(0, .ref b), (1, .int (nI n))] := hl
  refine lv_iload_n hx hb dL_act_0 rfl (lv_at hl 1 rfl) ?_
  refine lv_bipush (v := 16) hx hb dL_act_1 (by decide) ?_
  refine idiv_n (a := n) (b := 16) hx hb ⟨hn, by decide, by decide⟩ dL_act_3 ?_
  refine lv_istore_n (lv' := [(2, .int (nI (n / 16))), (0, .ref b), (1, .int (nI n))]) hx hb dL_act_4 rfl hl (by decide) rfl (fun ls hl => ?_)
  refine lv_aload_n hx hb dL_act_5 rfl (lv_at hl 1 rfl) ?_
  refine lv_iconst (v := 2) hx hb dL_act_6 (by decide) ?_
  refine lv_iconst (v := 0) hx hb dL_act_7 (by decide) ?_
  refine lv_iconst (v := 0) hx hb dL_act_8 (by decide) ?_
  refine lv_iconst (v := 0) hx hb dL_act_9 (by decide) ?_
  refine cl_o1 (rSP (A := blk b (b + 170)) (As := [.ref b, .int 2, .int 0, .int 0, .int 0]) (rest := []) ⟨hx, hb, hml, hown, hts⟩ (c_call_2 l G b X 0 0 0 (nI (gm (mN M))) X hst (rd_ab0 RX)) (va_cwS 5 hts gL_act_L_call rfl rfl rfl (by decide +kernel) ⟨(Nat.le_of_ble_eq_true rfl), (Nat.le_of_ble_eq_true rfl)⟩) hP hO (thr_at hTh hS (fun q h => h)) hN rfl hl.1 (Nat.le_of_ble_eq_true rfl) dL_act_10 ⟨(Nat.le_of_ble_eq_true rfl), (Nat.le_of_ble_eq_true rfl)⟩) hS (fun q h => h) (fun H locs hP hS => ?_)
  refine lv_istore_n (lv' := [(3, .int (nI (gm (mN M)))), (2, .int (nI (n / 16))), (0, .ref b), (1, .int (nI n))]) hx hb dL_act_13 rfl hl (by decide) rfl (fun ls hl => ?_)
  refine lv_iload_n hx hb dL_act_14 rfl (lv_at hl 1 rfl) ?_
  refine lv_iload_n hx hb dL_act_15 rfl (lv_at hl 0 rfl) ?_
  refine irem_n (a := n / 16) (b := gm (mN M)) hx hb ⟨hn16, hg0, hg31⟩ dL_act_16 ?_
  refine lv_istore (lv' := [(4, .int (nI ((n / 16) % (gm (mN M))))), (3, .int (nI (gm (mN M)))), (2, .int (nI (n / 16))), (0, .ref b), (1, .int (nI n))]) hx hb dL_act_17 hl (by decide) rfl (fun ls hl => ?_)
  refine lv_iload_n hx hb dL_act_19 rfl (lv_at hl 4 rfl) ?_
  refine lv_bipush (v := 16) hx hb dL_act_20 (by decide) ?_
  refine irem_n (a := n) (b := 16) hx hb ⟨hn, by decide, by decide⟩ dL_act_22 ?_
  rw [hi]
  refine lv_tableIn (off := 69) (tgt := 92) hx hb dL_act_23 (by decide) (by decide) (by decide +kernel) (by decide) ?_
  refine lv_aload_n hx hb dL_act_92 rfl (lv_at hl 3 rfl) ?_
  refine lv_bipush (v := 7) hx hb dL_act_93 (by decide) ?_
  refine lv_iconst (v := 2) hx hb dL_act_95 (by decide) ?_
  refine lv_iload_n hx hb dL_act_96 rfl (lv_at hl 2 rfl) ?_
  refine lv_bipush (v := 7) hx hb dL_act_97 (by decide) ?_
  refine irem_n (a := n / 16) (b := 7) hx hb ⟨hn16, by decide, by decide⟩ dL_act_99 ?_
  refine iadd_n (a := 2) (b := (n / 16) % 7) hx hb dL_act_100 ?_
  refine lv_iconst (v := 1) hx hb dL_act_101 (by decide) ?_
  refine lv_iload_n hx hb dL_act_102 rfl (lv_at hl 2 rfl) ?_
  refine lv_bipush (v := 7) hx hb dL_act_103 (by decide) ?_
  refine idiv_n (a := n / 16) (b := 7) hx hb ⟨hn16, by decide, by decide⟩ dL_act_105 ?_
  refine lv_iload_n hx hb dL_act_106 rfl (lv_at hl 2 rfl) ?_
  refine lv_iconst (v := 3) hx hb dL_act_107 (by decide) ?_
  refine irem_n (a := n / 16) (b := 3) hx hb ⟨hn16, by decide, by decide⟩ dL_act_108 ?_
  refine lv_if_ne (tgt := 117) hx hb dL_act_109 (by decide) (fun c1 => ?_) (fun c1 => ?_)
  · have c1f : ¬ ((n / 16) % 3 : Nat) = 0 := fun z => c1 (congrArg nI z)
    refine lv_bipush (v := 20) hx hb dL_act_117 (by decide) ?_
    refine irem_n (a := (n / 16) / 7) (b := 20) hx hb ⟨hnd 7, by decide, by decide⟩ dL_act_119 ?_
    refine iadd_n (a := 1) (b := ((n / 16) / 7) % 20) hx hb dL_act_120 ?_
    refine lv_iconst (v := 0) hx hb dL_act_121 (by decide) ?_
    obtain ⟨u1, hu1⟩ : ∃ u : Nat, u = 2 + ((n / 16) % 7) := ⟨_, rfl⟩
    rw [← hu1]
    obtain ⟨u2, hu2⟩ : ∃ u : Nat, u = 1 + (((n / 16) / 7) % 20) := ⟨_, rfl⟩
    rw [← hu2]
    have hq2 := (aq_come (nI u1) (nI u2) RX CX).1
    refine cl_o1 (rSP (A := blk b (b + 170)) (As := [.ref b, .int 7, .int (nI u1), .int (nI u2), .int 0]) (rest := []) ⟨hx, hb, hml, hown, hts⟩ (c_call_7 l G b X (nI u1) (nI u2) 0 _ _ hst (RX).ho (RX).hk hq2) (va_cwS 5 hts gL_act_L_call rfl rfl rfl (by decide +kernel) ⟨(Nat.le_of_ble_eq_true rfl), (Nat.le_of_ble_eq_true rfl)⟩) hP hO (thr_at hTh hS (fun q h => h)) hN rfl hl.1 (Nat.le_of_ble_eq_true rfl) dL_act_122 ⟨(Nat.le_of_ble_eq_true rfl), (Nat.le_of_ble_eq_true rfl)⟩) hS (fun q h => h) (fun H locs hP hS => ?_)
    have hF : fact M n = ((rvE kIAE kISE (h_X7_come M (nI u1) (nI u2))), (h_X7_come M (nI u1) (nI u2)).2) := by rw [fact_0 hi, if_neg c1f, hu1, hu2]
    exact W.widen (k := 2) (n := 12) (Nat.le_of_ble_eq_true rfl) (Nat.le_of_ble_eq_true rfl) (W.iret hx hb hr (fun t ht hW => ⟨(by rw [fin1 hF]), by rw [ht]; exact ⟨_, hP, fin2 hF ((aq_come (nI u1) (nI u2) RX CX).2.1), ((aq_come (nI u1) (nI u2) RX CX).2.2)⟩, hS.F ht⟩) hS.2.2 dL_act_125)
  · have c1f : ((n / 16) % 3 : Nat) = 0 := nI_inj (a := (n / 16) % 3) (b := 0) (by omega) (by omega) c1
    refine lv_bipush (v := 99) hx hb dL_act_112 (by decide) ?_
    refine lv_goto (tgt := 119) hx hb dL_act_114 (by decide) ?_
    refine irem_n (a := (n / 16) / 7) (b := 99) hx hb ⟨hnd 7, by decide, by decide⟩ dL_act_119 ?_
    refine iadd_n (a := 1) (b := ((n / 16) / 7) % 99) hx hb dL_act_120 ?_
    refine lv_iconst (v := 0) hx hb dL_act_121 (by decide) ?_
    obtain ⟨u1, hu1⟩ : ∃ u : Nat, u = 2 + ((n / 16) % 7) := ⟨_, rfl⟩
    rw [← hu1]
    obtain ⟨u2, hu2⟩ : ∃ u : Nat, u = 1 + (((n / 16) / 7) % 99) := ⟨_, rfl⟩
    rw [← hu2]
    have hq3 := (aq_come (nI u1) (nI u2) RX CX).1
    refine cl_o1 (rSP (A := blk b (b + 170)) (As := [.ref b, .int 7, .int (nI u1), .int (nI u2), .int 0]) (rest := []) ⟨hx, hb, hml, hown, hts⟩ (c_call_7 l G b X (nI u1) (nI u2) 0 _ _ hst (RX).ho (RX).hk hq3) (va_cwS 5 hts gL_act_L_call rfl rfl rfl (by decide +kernel) ⟨(Nat.le_of_ble_eq_true rfl), (Nat.le_of_ble_eq_true rfl)⟩) hP hO (thr_at hTh hS (fun q h => h)) hN rfl hl.1 (Nat.le_of_ble_eq_true rfl) dL_act_122 ⟨(Nat.le_of_ble_eq_true rfl), (Nat.le_of_ble_eq_true rfl)⟩) hS (fun q h => h) (fun H locs hP hS => ?_)
    have hF : fact M n = ((rvE kIAE kISE (h_X7_come M (nI u1) (nI u2))), (h_X7_come M (nI u1) (nI u2)).2) := by rw [fact_0 hi, if_pos c1f, hu1, hu2]
    exact W.widen (k := 2) (n := 12) (Nat.le_of_ble_eq_true rfl) (Nat.le_of_ble_eq_true rfl) (W.iret hx hb hr (fun t ht hW => ⟨(by rw [fin1 hF]), by rw [ht]; exact ⟨_, hP, fin2 hF ((aq_come (nI u1) (nI u2) RX CX).2.1), ((aq_come (nI u1) (nI u2) RX CX).2.2)⟩, hS.F ht⟩) hS.2.2 dL_act_125)

set_option maxHeartbeats 4000000 in
set_option maxRecDepth 100000 in
theorem c_L_act_1 (l : Launch) (G : GG) (b : Nat) (X : Cx) (M : Mo) (n : Nat) (hst : l.stackTraces = false) (RX : RelX X M) (CX : Ch X) (hn : n < 2 ^ 31) (hi : n % 16 = 1) : Met l yL_act wsL_act ({ frames := 12, cells := 2, slots := 12, locals := 210 }) (PcN G (blk b (b + 170)) [.ref b, .int (nI n)] (Cb G b X)) (QM (some (.int ((fact M n).1))) (fun H => ∃ X1, Cb G b X1 H ∧ RelX X1 (fact M n).2 ∧ Ch X1) (blk b (b + 170))) 2 12 (blk b (b + 170)) := by
  refine metN (cc := cL_act) (maxL := 5) (ret := (some .int)) (by decide) rfl ?_
  intro p e s m below meth cd hx hb hr hml hown hts hlocks hP hO hTh hN
  have hg2 : 2 ≤ gm (mN M) := by rw [← nm_gm RX]; exact CX.1
  have hg40 := RX.nw.2.ri.m.2
  have hg0 : 0 < gm (mN M) := Nat.lt_of_lt_of_le (by decide) hg2
  have hg31 : gm (mN M) < 2 ^ 31 := Nat.lt_of_le_of_lt hg40 (by decide)
  have hn16 : n / 16 < 2 ^ 31 := Nat.lt_of_le_of_lt (Nat.div_le_self _ _) hn
  have hnd : ∀ k, n / 16 / k < 2 ^ 31 := fun k => Nat.lt_of_le_of_lt (Nat.div_le_self _ _) hn16
  have hnm : ∀ k, n / 16 % k < 2 ^ 31 := fun k => Nat.lt_of_le_of_lt (Nat.mod_le _ _) hn16
  have hS : va_S (blk b (b + 170)) s.heap s.heap [] := va_S.rf
  have hl := lv_entry ([.ref b, .int (nI n)]) (n := 5) (Nat.le_of_ble_eq_true rfl)
  rw [lg_entry_eq]
  generalize (lg_sl ([.ref b, .int (nI n)]) ++ List.replicate (5 - (lg_sl ([.ref b, .int (nI n)])).length) Slot.unset).toArray = ls at hl ⊢
  have hl : lv_has ls 5 [(0, .ref b), (1, .int (nI n))] := hl
  refine lv_iload_n hx hb dL_act_0 rfl (lv_at hl 1 rfl) ?_
  refine lv_bipush (v := 16) hx hb dL_act_1 (by decide) ?_
  refine idiv_n (a := n) (b := 16) hx hb ⟨hn, by decide, by decide⟩ dL_act_3 ?_
  refine lv_istore_n (lv' := [(2, .int (nI (n / 16))), (0, .ref b), (1, .int (nI n))]) hx hb dL_act_4 rfl hl (by decide) rfl (fun ls hl => ?_)
  refine lv_aload_n hx hb dL_act_5 rfl (lv_at hl 1 rfl) ?_
  refine lv_iconst (v := 2) hx hb dL_act_6 (by decide) ?_
  refine lv_iconst (v := 0) hx hb dL_act_7 (by decide) ?_
  refine lv_iconst (v := 0) hx hb dL_act_8 (by decide) ?_
  refine lv_iconst (v := 0) hx hb dL_act_9 (by decide) ?_
  refine cl_o1 (rSP (A := blk b (b + 170)) (As := [.ref b, .int 2, .int 0, .int 0, .int 0]) (rest := []) ⟨hx, hb, hml, hown, hts⟩ (c_call_2 l G b X 0 0 0 (nI (gm (mN M))) X hst (rd_ab0 RX)) (va_cwS 5 hts gL_act_L_call rfl rfl rfl (by decide +kernel) ⟨(Nat.le_of_ble_eq_true rfl), (Nat.le_of_ble_eq_true rfl)⟩) hP hO (thr_at hTh hS (fun q h => h)) hN rfl hl.1 (Nat.le_of_ble_eq_true rfl) dL_act_10 ⟨(Nat.le_of_ble_eq_true rfl), (Nat.le_of_ble_eq_true rfl)⟩) hS (fun q h => h) (fun H locs hP hS => ?_)
  refine lv_istore_n (lv' := [(3, .int (nI (gm (mN M)))), (2, .int (nI (n / 16))), (0, .ref b), (1, .int (nI n))]) hx hb dL_act_13 rfl hl (by decide) rfl (fun ls hl => ?_)
  refine lv_iload_n hx hb dL_act_14 rfl (lv_at hl 1 rfl) ?_
  refine lv_iload_n hx hb dL_act_15 rfl (lv_at hl 0 rfl) ?_
  refine irem_n (a := n / 16) (b := gm (mN M)) hx hb ⟨hn16, hg0, hg31⟩ dL_act_16 ?_
  refine lv_istore (lv' := [(4, .int (nI ((n / 16) % (gm (mN M))))), (3, .int (nI (gm (mN M)))), (2, .int (nI (n / 16))), (0, .ref b), (1, .int (nI n))]) hx hb dL_act_17 hl (by decide) rfl (fun ls hl => ?_)
  refine lv_iload_n hx hb dL_act_19 rfl (lv_at hl 4 rfl) ?_
  refine lv_bipush (v := 16) hx hb dL_act_20 (by decide) ?_
  refine irem_n (a := n) (b := 16) hx hb ⟨hn, by decide, by decide⟩ dL_act_22 ?_
  rw [hi]
  refine lv_tableIn (off := 69) (tgt := 92) hx hb dL_act_23 (by decide) (by decide) (by decide +kernel) (by decide) ?_
  refine lv_aload_n hx hb dL_act_92 rfl (lv_at hl 3 rfl) ?_
  refine lv_bipush (v := 7) hx hb dL_act_93 (by decide) ?_
  refine lv_iconst (v := 2) hx hb dL_act_95 (by decide) ?_
  refine lv_iload_n hx hb dL_act_96 rfl (lv_at hl 2 rfl) ?_
  refine lv_bipush (v := 7) hx hb dL_act_97 (by decide) ?_
  refine irem_n (a := n / 16) (b := 7) hx hb ⟨hn16, by decide, by decide⟩ dL_act_99 ?_
  refine iadd_n (a := 2) (b := (n / 16) % 7) hx hb dL_act_100 ?_
  refine lv_iconst (v := 1) hx hb dL_act_101 (by decide) ?_
  refine lv_iload_n hx hb dL_act_102 rfl (lv_at hl 2 rfl) ?_
  refine lv_bipush (v := 7) hx hb dL_act_103 (by decide) ?_
  refine idiv_n (a := n / 16) (b := 7) hx hb ⟨hn16, by decide, by decide⟩ dL_act_105 ?_
  refine lv_iload_n hx hb dL_act_106 rfl (lv_at hl 2 rfl) ?_
  refine lv_iconst (v := 3) hx hb dL_act_107 (by decide) ?_
  refine irem_n (a := n / 16) (b := 3) hx hb ⟨hn16, by decide, by decide⟩ dL_act_108 ?_
  refine lv_if_ne (tgt := 117) hx hb dL_act_109 (by decide) (fun c1 => ?_) (fun c1 => ?_)
  · have c1f : ¬ ((n / 16) % 3 : Nat) = 0 := fun z => c1 (congrArg nI z)
    refine lv_bipush (v := 20) hx hb dL_act_117 (by decide) ?_
    refine irem_n (a := (n / 16) / 7) (b := 20) hx hb ⟨hnd 7, by decide, by decide⟩ dL_act_119 ?_
    refine iadd_n (a := 1) (b := ((n / 16) / 7) % 20) hx hb dL_act_120 ?_
    refine lv_iconst (v := 0) hx hb dL_act_121 (by decide) ?_
    obtain ⟨u1, hu1⟩ : ∃ u : Nat, u = 2 + ((n / 16) % 7) := ⟨_, rfl⟩
    rw [← hu1]
    obtain ⟨u2, hu2⟩ : ∃ u : Nat, u = 1 + (((n / 16) / 7) % 20) := ⟨_, rfl⟩
    rw [← hu2]
    have hq2 := (aq_come (nI u1) (nI u2) RX CX).1
    refine cl_o1 (rSP (A := blk b (b + 170)) (As := [.ref b, .int 7, .int (nI u1), .int (nI u2), .int 0]) (rest := []) ⟨hx, hb, hml, hown, hts⟩ (c_call_7 l G b X (nI u1) (nI u2) 0 _ _ hst (RX).ho (RX).hk hq2) (va_cwS 5 hts gL_act_L_call rfl rfl rfl (by decide +kernel) ⟨(Nat.le_of_ble_eq_true rfl), (Nat.le_of_ble_eq_true rfl)⟩) hP hO (thr_at hTh hS (fun q h => h)) hN rfl hl.1 (Nat.le_of_ble_eq_true rfl) dL_act_122 ⟨(Nat.le_of_ble_eq_true rfl), (Nat.le_of_ble_eq_true rfl)⟩) hS (fun q h => h) (fun H locs hP hS => ?_)
    have hF : fact M n = ((rvE kIAE kISE (h_X7_come M (nI u1) (nI u2))), (h_X7_come M (nI u1) (nI u2)).2) := by rw [fact_1 hi, if_neg c1f, hu1, hu2]
    exact W.widen (k := 2) (n := 12) (Nat.le_of_ble_eq_true rfl) (Nat.le_of_ble_eq_true rfl) (W.iret hx hb hr (fun t ht hW => ⟨(by rw [fin1 hF]), by rw [ht]; exact ⟨_, hP, fin2 hF ((aq_come (nI u1) (nI u2) RX CX).2.1), ((aq_come (nI u1) (nI u2) RX CX).2.2)⟩, hS.F ht⟩) hS.2.2 dL_act_125)
  · have c1f : ((n / 16) % 3 : Nat) = 0 := nI_inj (a := (n / 16) % 3) (b := 0) (by omega) (by omega) c1
    refine lv_bipush (v := 99) hx hb dL_act_112 (by decide) ?_
    refine lv_goto (tgt := 119) hx hb dL_act_114 (by decide) ?_
    refine irem_n (a := (n / 16) / 7) (b := 99) hx hb ⟨hnd 7, by decide, by decide⟩ dL_act_119 ?_
    refine iadd_n (a := 1) (b := ((n / 16) / 7) % 99) hx hb dL_act_120 ?_
    refine lv_iconst (v := 0) hx hb dL_act_121 (by decide) ?_
    obtain ⟨u1, hu1⟩ : ∃ u : Nat, u = 2 + ((n / 16) % 7) := ⟨_, rfl⟩
    rw [← hu1]
    obtain ⟨u2, hu2⟩ : ∃ u : Nat, u = 1 + (((n / 16) / 7) % 99) := ⟨_, rfl⟩
    rw [← hu2]
    have hq3 := (aq_come (nI u1) (nI u2) RX CX).1
    refine cl_o1 (rSP (A := blk b (b + 170)) (As := [.ref b, .int 7, .int (nI u1), .int (nI u2), .int 0]) (rest := []) ⟨hx, hb, hml, hown, hts⟩ (c_call_7 l G b X (nI u1) (nI u2) 0 _ _ hst (RX).ho (RX).hk hq3) (va_cwS 5 hts gL_act_L_call rfl rfl rfl (by decide +kernel) ⟨(Nat.le_of_ble_eq_true rfl), (Nat.le_of_ble_eq_true rfl)⟩) hP hO (thr_at hTh hS (fun q h => h)) hN rfl hl.1 (Nat.le_of_ble_eq_true rfl) dL_act_122 ⟨(Nat.le_of_ble_eq_true rfl), (Nat.le_of_ble_eq_true rfl)⟩) hS (fun q h => h) (fun H locs hP hS => ?_)
    have hF : fact M n = ((rvE kIAE kISE (h_X7_come M (nI u1) (nI u2))), (h_X7_come M (nI u1) (nI u2)).2) := by rw [fact_1 hi, if_pos c1f, hu1, hu2]
    exact W.widen (k := 2) (n := 12) (Nat.le_of_ble_eq_true rfl) (Nat.le_of_ble_eq_true rfl) (W.iret hx hb hr (fun t ht hW => ⟨(by rw [fin1 hF]), by rw [ht]; exact ⟨_, hP, fin2 hF ((aq_come (nI u1) (nI u2) RX CX).2.1), ((aq_come (nI u1) (nI u2) RX CX).2.2)⟩, hS.F ht⟩) hS.2.2 dL_act_125)

set_option maxHeartbeats 4000000 in
set_option maxRecDepth 100000 in
theorem c_L_act_2 (l : Launch) (G : GG) (b : Nat) (X : Cx) (M : Mo) (n : Nat) (hst : l.stackTraces = false) (RX : RelX X M) (CX : Ch X) (hn : n < 2 ^ 31) (hi : n % 16 = 2) : Met l yL_act wsL_act ({ frames := 12, cells := 2, slots := 12, locals := 210 }) (PcN G (blk b (b + 170)) [.ref b, .int (nI n)] (Cb G b X)) (QM (some (.int ((fact M n).1))) (fun H => ∃ X1, Cb G b X1 H ∧ RelX X1 (fact M n).2 ∧ Ch X1) (blk b (b + 170))) 2 12 (blk b (b + 170)) := by
  refine metN (cc := cL_act) (maxL := 5) (ret := (some .int)) (by decide) rfl ?_
  intro p e s m below meth cd hx hb hr hml hown hts hlocks hP hO hTh hN
  have hg2 : 2 ≤ gm (mN M) := by rw [← nm_gm RX]; exact CX.1
  have hg40 := RX.nw.2.ri.m.2
  have hg0 : 0 < gm (mN M) := Nat.lt_of_lt_of_le (by decide) hg2
  have hg31 : gm (mN M) < 2 ^ 31 := Nat.lt_of_le_of_lt hg40 (by decide)
  have hn16 : n / 16 < 2 ^ 31 := Nat.lt_of_le_of_lt (Nat.div_le_self _ _) hn
  have hnd : ∀ k, n / 16 / k < 2 ^ 31 := fun k => Nat.lt_of_le_of_lt (Nat.div_le_self _ _) hn16
  have hnm : ∀ k, n / 16 % k < 2 ^ 31 := fun k => Nat.lt_of_le_of_lt (Nat.mod_le _ _) hn16
  have hS : va_S (blk b (b + 170)) s.heap s.heap [] := va_S.rf
  have hl := lv_entry ([.ref b, .int (nI n)]) (n := 5) (Nat.le_of_ble_eq_true rfl)
  rw [lg_entry_eq]
  generalize (lg_sl ([.ref b, .int (nI n)]) ++ List.replicate (5 - (lg_sl ([.ref b, .int (nI n)])).length) Slot.unset).toArray = ls at hl ⊢
  have hl : lv_has ls 5 [(0, .ref b), (1, .int (nI n))] := hl
  refine lv_iload_n hx hb dL_act_0 rfl (lv_at hl 1 rfl) ?_
  refine lv_bipush (v := 16) hx hb dL_act_1 (by decide) ?_
  refine idiv_n (a := n) (b := 16) hx hb ⟨hn, by decide, by decide⟩ dL_act_3 ?_
  refine lv_istore_n (lv' := [(2, .int (nI (n / 16))), (0, .ref b), (1, .int (nI n))]) hx hb dL_act_4 rfl hl (by decide) rfl (fun ls hl => ?_)
  refine lv_aload_n hx hb dL_act_5 rfl (lv_at hl 1 rfl) ?_
  refine lv_iconst (v := 2) hx hb dL_act_6 (by decide) ?_
  refine lv_iconst (v := 0) hx hb dL_act_7 (by decide) ?_
  refine lv_iconst (v := 0) hx hb dL_act_8 (by decide) ?_
  refine lv_iconst (v := 0) hx hb dL_act_9 (by decide) ?_
  refine cl_o1 (rSP (A := blk b (b + 170)) (As := [.ref b, .int 2, .int 0, .int 0, .int 0]) (rest := []) ⟨hx, hb, hml, hown, hts⟩ (c_call_2 l G b X 0 0 0 (nI (gm (mN M))) X hst (rd_ab0 RX)) (va_cwS 5 hts gL_act_L_call rfl rfl rfl (by decide +kernel) ⟨(Nat.le_of_ble_eq_true rfl), (Nat.le_of_ble_eq_true rfl)⟩) hP hO (thr_at hTh hS (fun q h => h)) hN rfl hl.1 (Nat.le_of_ble_eq_true rfl) dL_act_10 ⟨(Nat.le_of_ble_eq_true rfl), (Nat.le_of_ble_eq_true rfl)⟩) hS (fun q h => h) (fun H locs hP hS => ?_)
  refine lv_istore_n (lv' := [(3, .int (nI (gm (mN M)))), (2, .int (nI (n / 16))), (0, .ref b), (1, .int (nI n))]) hx hb dL_act_13 rfl hl (by decide) rfl (fun ls hl => ?_)
  refine lv_iload_n hx hb dL_act_14 rfl (lv_at hl 1 rfl) ?_
  refine lv_iload_n hx hb dL_act_15 rfl (lv_at hl 0 rfl) ?_
  refine irem_n (a := n / 16) (b := gm (mN M)) hx hb ⟨hn16, hg0, hg31⟩ dL_act_16 ?_
  refine lv_istore (lv' := [(4, .int (nI ((n / 16) % (gm (mN M))))), (3, .int (nI (gm (mN M)))), (2, .int (nI (n / 16))), (0, .ref b), (1, .int (nI n))]) hx hb dL_act_17 hl (by decide) rfl (fun ls hl => ?_)
  refine lv_iload_n hx hb dL_act_19 rfl (lv_at hl 4 rfl) ?_
  refine lv_bipush (v := 16) hx hb dL_act_20 (by decide) ?_
  refine irem_n (a := n) (b := 16) hx hb ⟨hn, by decide, by decide⟩ dL_act_22 ?_
  rw [hi]
  refine lv_tableIn (off := 69) (tgt := 92) hx hb dL_act_23 (by decide) (by decide) (by decide +kernel) (by decide) ?_
  refine lv_aload_n hx hb dL_act_92 rfl (lv_at hl 3 rfl) ?_
  refine lv_bipush (v := 7) hx hb dL_act_93 (by decide) ?_
  refine lv_iconst (v := 2) hx hb dL_act_95 (by decide) ?_
  refine lv_iload_n hx hb dL_act_96 rfl (lv_at hl 2 rfl) ?_
  refine lv_bipush (v := 7) hx hb dL_act_97 (by decide) ?_
  refine irem_n (a := n / 16) (b := 7) hx hb ⟨hn16, by decide, by decide⟩ dL_act_99 ?_
  refine iadd_n (a := 2) (b := (n / 16) % 7) hx hb dL_act_100 ?_
  refine lv_iconst (v := 1) hx hb dL_act_101 (by decide) ?_
  refine lv_iload_n hx hb dL_act_102 rfl (lv_at hl 2 rfl) ?_
  refine lv_bipush (v := 7) hx hb dL_act_103 (by decide) ?_
  refine idiv_n (a := n / 16) (b := 7) hx hb ⟨hn16, by decide, by decide⟩ dL_act_105 ?_
  refine lv_iload_n hx hb dL_act_106 rfl (lv_at hl 2 rfl) ?_
  refine lv_iconst (v := 3) hx hb dL_act_107 (by decide) ?_
  refine irem_n (a := n / 16) (b := 3) hx hb ⟨hn16, by decide, by decide⟩ dL_act_108 ?_
  refine lv_if_ne (tgt := 117) hx hb dL_act_109 (by decide) (fun c1 => ?_) (fun c1 => ?_)
  · have c1f : ¬ ((n / 16) % 3 : Nat) = 0 := fun z => c1 (congrArg nI z)
    refine lv_bipush (v := 20) hx hb dL_act_117 (by decide) ?_
    refine irem_n (a := (n / 16) / 7) (b := 20) hx hb ⟨hnd 7, by decide, by decide⟩ dL_act_119 ?_
    refine iadd_n (a := 1) (b := ((n / 16) / 7) % 20) hx hb dL_act_120 ?_
    refine lv_iconst (v := 0) hx hb dL_act_121 (by decide) ?_
    obtain ⟨u1, hu1⟩ : ∃ u : Nat, u = 2 + ((n / 16) % 7) := ⟨_, rfl⟩
    rw [← hu1]
    obtain ⟨u2, hu2⟩ : ∃ u : Nat, u = 1 + (((n / 16) / 7) % 20) := ⟨_, rfl⟩
    rw [← hu2]
    have hq2 := (aq_come (nI u1) (nI u2) RX CX).1
    refine cl_o1 (rSP (A := blk b (b + 170)) (As := [.ref b, .int 7, .int (nI u1), .int (nI u2), .int 0]) (rest := []) ⟨hx, hb, hml, hown, hts⟩ (c_call_7 l G b X (nI u1) (nI u2) 0 _ _ hst (RX).ho (RX).hk hq2) (va_cwS 5 hts gL_act_L_call rfl rfl rfl (by decide +kernel) ⟨(Nat.le_of_ble_eq_true rfl), (Nat.le_of_ble_eq_true rfl)⟩) hP hO (thr_at hTh hS (fun q h => h)) hN rfl hl.1 (Nat.le_of_ble_eq_true rfl) dL_act_122 ⟨(Nat.le_of_ble_eq_true rfl), (Nat.le_of_ble_eq_true rfl)⟩) hS (fun q h => h) (fun H locs hP hS => ?_)
    have hF : fact M n = ((rvE kIAE kISE (h_X7_come M (nI u1) (nI u2))), (h_X7_come M (nI u1) (nI u2)).2) := by rw [fact_2 hi, if_neg c1f, hu1, hu2]
    exact W.widen (k := 2) (n := 12) (Nat.le_of_ble_eq_true rfl) (Nat.le_of_ble_eq_true rfl) (W.iret hx hb hr (fun t ht hW => ⟨(by rw [fin1 hF]), by rw [ht]; exact ⟨_, hP, fin2 hF ((aq_come (nI u1) (nI u2) RX CX).2.1), ((aq_come (nI u1) (nI u2) RX CX).2.2)⟩, hS.F ht⟩) hS.2.2 dL_act_125)
  · have c1f : ((n / 16) % 3 : Nat) = 0 := nI_inj (a := (n / 16) % 3) (b := 0) (by omega) (by omega) c1
    refine lv_bipush (v := 99) hx hb dL_act_112 (by decide) ?_
    refine lv_goto (tgt := 119) hx hb dL_act_114 (by decide) ?_
    refine irem_n (a := (n / 16) / 7) (b := 99) hx hb ⟨hnd 7, by decide, by decide⟩ dL_act_119 ?_
    refine iadd_n (a := 1) (b := ((n / 16) / 7) % 99) hx hb dL_act_120 ?_
    refine lv_iconst (v := 0) hx hb dL_act_121 (by decide) ?_
    obtain ⟨u1, hu1⟩ : ∃ u : Nat, u = 2 + ((n / 16) % 7) := ⟨_, rfl⟩
    rw [← hu1]
    obtain ⟨u2, hu2⟩ : ∃ u : Nat, u = 1 + (((n / 16) / 7) % 99) := ⟨_, rfl⟩
    rw [← hu2]
    have hq3 := (aq_come (nI u1) (nI u2) RX CX).1
    refine cl_o1 (rSP (A := blk b (b + 170)) (As := [.ref b, .int 7, .int (nI u1), .int (nI u2), .int 0]) (rest := []) ⟨hx, hb, hml, hown, hts⟩ (c_call_7 l G b X (nI u1) (nI u2) 0 _ _ hst (RX).ho (RX).hk hq3) (va_cwS 5 hts gL_act_L_call rfl rfl rfl (by decide +kernel) ⟨(Nat.le_of_ble_eq_true rfl), (Nat.le_of_ble_eq_true rfl)⟩) hP hO (thr_at hTh hS (fun q h => h)) hN rfl hl.1 (Nat.le_of_ble_eq_true rfl) dL_act_122 ⟨(Nat.le_of_ble_eq_true rfl), (Nat.le_of_ble_eq_true rfl)⟩) hS (fun q h => h) (fun H locs hP hS => ?_)
    have hF : fact M n = ((rvE kIAE kISE (h_X7_come M (nI u1) (nI u2))), (h_X7_come M (nI u1) (nI u2)).2) := by rw [fact_2 hi, if_pos c1f, hu1, hu2]
    exact W.widen (k := 2) (n := 12) (Nat.le_of_ble_eq_true rfl) (Nat.le_of_ble_eq_true rfl) (W.iret hx hb hr (fun t ht hW => ⟨(by rw [fin1 hF]), by rw [ht]; exact ⟨_, hP, fin2 hF ((aq_come (nI u1) (nI u2) RX CX).2.1), ((aq_come (nI u1) (nI u2) RX CX).2.2)⟩, hS.F ht⟩) hS.2.2 dL_act_125)

set_option maxHeartbeats 4000000 in
set_option maxRecDepth 100000 in
theorem c_L_act_3 (l : Launch) (G : GG) (b : Nat) (X : Cx) (M : Mo) (n : Nat) (hst : l.stackTraces = false) (RX : RelX X M) (CX : Ch X) (hn : n < 2 ^ 31) (hi : n % 16 = 3) : Met l yL_act wsL_act ({ frames := 12, cells := 2, slots := 12, locals := 210 }) (PcN G (blk b (b + 170)) [.ref b, .int (nI n)] (Cb G b X)) (QM (some (.int ((fact M n).1))) (fun H => ∃ X1, Cb G b X1 H ∧ RelX X1 (fact M n).2 ∧ Ch X1) (blk b (b + 170))) 2 12 (blk b (b + 170)) := by
  refine metN (cc := cL_act) (maxL := 5) (ret := (some .int)) (by decide) rfl ?_
  intro p e s m below meth cd hx hb hr hml hown hts hlocks hP hO hTh hN
  have hg2 : 2 ≤ gm (mN M) := by rw [← nm_gm RX]; exact CX.1
  have hg40 := RX.nw.2.ri.m.2
  have hg0 : 0 < gm (mN M) := Nat.lt_of_lt_of_le (by decide) hg2
  have hg31 : gm (mN M) < 2 ^ 31 := Nat.lt_of_le_of_lt hg40 (by decide)
  have hn16 : n / 16 < 2 ^ 31 := Nat.lt_of_le_of_lt (Nat.div_le_self _ _) hn
  have hnd : ∀ k, n / 16 / k < 2 ^ 31 := fun k => Nat.lt_of_le_of_lt (Nat.div_le_self _ _) hn16
  have hnm : ∀ k, n / 16 % k < 2 ^ 31 := fun k => Nat.lt_of_le_of_lt (Nat.mod_le _ _) hn16
  have hS : va_S (blk b (b + 170)) s.heap s.heap [] := va_S.rf
  have hl := lv_entry ([.ref b, .int (nI n)]) (n := 5) (Nat.le_of_ble_eq_true rfl)
  rw [lg_entry_eq]
  generalize (lg_sl ([.ref b, .int (nI n)]) ++ List.replicate (5 - (lg_sl ([.ref b, .int (nI n)])).length) Slot.unset).toArray = ls at hl ⊢
  have hl : lv_has ls 5 [(0, .ref b), (1, .int (nI n))] := hl
  refine lv_iload_n hx hb dL_act_0 rfl (lv_at hl 1 rfl) ?_
  refine lv_bipush (v := 16) hx hb dL_act_1 (by decide) ?_
  refine idiv_n (a := n) (b := 16) hx hb ⟨hn, by decide, by decide⟩ dL_act_3 ?_
  refine lv_istore_n (lv' := [(2, .int (nI (n / 16))), (0, .ref b), (1, .int (nI n))]) hx hb dL_act_4 rfl hl (by decide) rfl (fun ls hl => ?_)
  refine lv_aload_n hx hb dL_act_5 rfl (lv_at hl 1 rfl) ?_
  refine lv_iconst (v := 2) hx hb dL_act_6 (by decide) ?_
  refine lv_iconst (v := 0) hx hb dL_act_7 (by decide) ?_
  refine lv_iconst (v := 0) hx hb dL_act_8 (by decide) ?_
  refine lv_iconst (v := 0) hx hb dL_act_9 (by decide) ?_
  refine cl_o1 (rSP (A := blk b (b + 170)) (As := [.ref b, .int 2, .int 0, .int 0, .int 0]) (rest := []) ⟨hx, hb, hml, hown, hts⟩ (c_call_2 l G b X 0 0 0 (nI (gm (mN M))) X hst (rd_ab0 RX)) (va_cwS 5 hts gL_act_L_call rfl rfl rfl (by decide +kernel) ⟨(Nat.le_of_ble_eq_true rfl), (Nat.le_of_ble_eq_true rfl)⟩) hP hO (thr_at hTh hS (fun q h => h)) hN rfl hl.1 (Nat.le_of_ble_eq_true rfl) dL_act_10 ⟨(Nat.le_of_ble_eq_true rfl), (Nat.le_of_ble_eq_true rfl)⟩) hS (fun q h => h) (fun H locs hP hS => ?_)
  refine lv_istore_n (lv' := [(3, .int (nI (gm (mN M)))), (2, .int (nI (n / 16))), (0, .ref b), (1, .int (nI n))]) hx hb dL_act_13 rfl hl (by decide) rfl (fun ls hl => ?_)
  refine lv_iload_n hx hb dL_act_14 rfl (lv_at hl 1 rfl) ?_
  refine lv_iload_n hx hb dL_act_15 rfl (lv_at hl 0 rfl) ?_
  refine irem_n (a := n / 16) (b := gm (mN M)) hx hb ⟨hn16, hg0, hg31⟩ dL_act_16 ?_
  refine lv_istore (lv' := [(4, .int (nI ((n / 16) % (gm (mN M))))), (3, .int (nI (gm (mN M)))), (2, .int (nI (n / 16))), (0, .ref b), (1, .int (nI n))]) hx hb dL_act_17 hl (by decide) rfl (fun ls hl => ?_)
  refine lv_iload_n hx hb dL_act_19 rfl (lv_at hl 4 rfl) ?_
  refine lv_bipush (v := 16) hx hb dL_act_20 (by decide) ?_
  refine irem_n (a := n) (b := 16) hx hb ⟨hn, by decide, by decide⟩ dL_act_22 ?_
  rw [hi]
  refine lv_tableIn (off := 69) (tgt := 92) hx hb dL_act_23 (by decide) (by decide) (by decide +kernel) (by decide) ?_
  refine lv_aload_n hx hb dL_act_92 rfl (lv_at hl 3 rfl) ?_
  refine lv_bipush (v := 7) hx hb dL_act_93 (by decide) ?_
  refine lv_iconst (v := 2) hx hb dL_act_95 (by decide) ?_
  refine lv_iload_n hx hb dL_act_96 rfl (lv_at hl 2 rfl) ?_
  refine lv_bipush (v := 7) hx hb dL_act_97 (by decide) ?_
  refine irem_n (a := n / 16) (b := 7) hx hb ⟨hn16, by decide, by decide⟩ dL_act_99 ?_
  refine iadd_n (a := 2) (b := (n / 16) % 7) hx hb dL_act_100 ?_
  refine lv_iconst (v := 1) hx hb dL_act_101 (by decide) ?_
  refine lv_iload_n hx hb dL_act_102 rfl (lv_at hl 2 rfl) ?_
  refine lv_bipush (v := 7) hx hb dL_act_103 (by decide) ?_
  refine idiv_n (a := n / 16) (b := 7) hx hb ⟨hn16, by decide, by decide⟩ dL_act_105 ?_
  refine lv_iload_n hx hb dL_act_106 rfl (lv_at hl 2 rfl) ?_
  refine lv_iconst (v := 3) hx hb dL_act_107 (by decide) ?_
  refine irem_n (a := n / 16) (b := 3) hx hb ⟨hn16, by decide, by decide⟩ dL_act_108 ?_
  refine lv_if_ne (tgt := 117) hx hb dL_act_109 (by decide) (fun c1 => ?_) (fun c1 => ?_)
  · have c1f : ¬ ((n / 16) % 3 : Nat) = 0 := fun z => c1 (congrArg nI z)
    refine lv_bipush (v := 20) hx hb dL_act_117 (by decide) ?_
    refine irem_n (a := (n / 16) / 7) (b := 20) hx hb ⟨hnd 7, by decide, by decide⟩ dL_act_119 ?_
    refine iadd_n (a := 1) (b := ((n / 16) / 7) % 20) hx hb dL_act_120 ?_
    refine lv_iconst (v := 0) hx hb dL_act_121 (by decide) ?_
    obtain ⟨u1, hu1⟩ : ∃ u : Nat, u = 2 + ((n / 16) % 7) := ⟨_, rfl⟩
    rw [← hu1]
    obtain ⟨u2, hu2⟩ : ∃ u : Nat, u = 1 + (((n / 16) / 7) % 20) := ⟨_, rfl⟩
    rw [← hu2]
    have hq2 := (aq_come (nI u1) (nI u2) RX CX).1
    refine cl_o1 (rSP (A := blk b (b + 170)) (As := [.ref b, .int 7, .int (nI u1), .int (nI u2), .int 0]) (rest := []) ⟨hx, hb, hml, hown, hts⟩ (c_call_7 l G b X (nI u1) (nI u2) 0 _ _ hst (RX).ho (RX).hk hq2) (va_cwS 5 hts gL_act_L_call rfl rfl rfl (by decide +kernel) ⟨(Nat.le_of_ble_eq_true rfl), (Nat.le_of_ble_eq_true rfl)⟩) hP hO (thr_at hTh hS (fun q h => h)) hN rfl hl.1 (Nat.le_of_ble_eq_true rfl) dL_act_122 ⟨(Nat.le_of_ble_eq_true rfl), (Nat.le_of_ble_eq_true rfl)⟩) hS (fun q h => h) (fun H locs hP hS => ?_)
    have hF : fact M n = ((rvE kIAE kISE (h_X7_come M (nI u1) (nI u2))), (h_X7_come M (nI u1) (nI u2)).2) := by rw [fact_3 hi, if_neg c1f, hu1, hu2]
    exact W.widen (k := 2) (n := 12) (Nat.le_of_ble_eq_true rfl) (Nat.le_of_ble_eq_true rfl) (W.iret hx hb hr (fun t ht hW => ⟨(by rw [fin1 hF]), by rw [ht]; exact ⟨_, hP, fin2 hF ((aq_come (nI u1) (nI u2) RX CX).2.1), ((aq_come (nI u1) (nI u2) RX CX).2.2)⟩, hS.F ht⟩) hS.2.2 dL_act_125)
  · have c1f : ((n / 16) % 3 : Nat) = 0 := nI_inj (a := (n / 16) % 3) (b := 0) (by omega) (by omega) c1
    refine lv_bipush (v := 99) hx hb dL_act_112 (by decide) ?_
    refine lv_goto (tgt := 119) hx hb dL_act_114 (by decide) ?_
    refine irem_n (a := (n / 16) / 7) (b := 99) hx hb ⟨hnd 7, by decide, by decide⟩ dL_act_119 ?_
    refine iadd_n (a := 1) (b := ((n / 16) / 7) % 99) hx hb dL_act_120 ?_
    refine lv_iconst (v := 0) hx hb dL_act_121 (by decide) ?_
    obtain ⟨u1, hu1⟩ : ∃ u : Nat, u = 2 + ((n / 16) % 7) := ⟨_, rfl⟩
    rw [← hu1]
    obtain ⟨u2, hu2⟩ : ∃ u : Nat, u = 1 + (((n / 16) / 7) % 99) := ⟨_, rfl⟩
    rw [← hu2]
    have hq3 := (aq_come (nI u1) (nI u2) RX CX).1
    refine cl_o1 (rSP (A := blk b (b + 170)) (As := [.ref b, .int 7, .int (nI u1), .int (nI u2), .int 0]) (rest := []) ⟨hx, hb, hml, hown, hts⟩ (c_call_7 l G b X (nI u1) (nI u2) 0 _ _ hst (RX).ho (RX).hk hq3) (va_cwS 5 hts gL_act_L_call rfl rfl rfl (by decide +kernel) ⟨(Nat.le_of_ble_eq_true rfl), (Nat.le_of_ble_eq_true rfl)⟩) hP hO (thr_at hTh hS (fun q h => h)) hN rfl hl.1 (Nat.le_of_ble_eq_true rfl) dL_act_122 ⟨(Nat.le_of_ble_eq_true rfl), (Nat.le_of_ble_eq_true rfl)⟩) hS (fun q h => h) (fun H locs hP hS => ?_)
    have hF : fact M n = ((rvE kIAE kISE (h_X7_come M (nI u1) (nI u2))), (h_X7_come M (nI u1) (nI u2)).2) := by rw [fact_3 hi, if_pos c1f, hu1, hu2]
    exact W.widen (k := 2) (n := 12) (Nat.le_of_ble_eq_true rfl) (Nat.le_of_ble_eq_true rfl) (W.iret hx hb hr (fun t ht hW => ⟨(by rw [fin1 hF]), by rw [ht]; exact ⟨_, hP, fin2 hF ((aq_come (nI u1) (nI u2) RX CX).2.1), ((aq_come (nI u1) (nI u2) RX CX).2.2)⟩, hS.F ht⟩) hS.2.2 dL_act_125)
