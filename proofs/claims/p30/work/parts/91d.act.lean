set_option maxHeartbeats 4000000 in
set_option maxRecDepth 100000 in
theorem c_L_act_10 (l : Launch) (G : GG) (b : Nat) (X : Cx) (M : Mo) (n : Nat) (hst : l.stackTraces = false) (RX : RelX X M) (CX : Ch X) (hn : n < 2 ^ 31) (hi : n % 16 = 10) : Met l yL_act wsL_act ({ frames := 12, cells := 2, slots := 12, locals := 210 }) (PcN G (blk b (b + 170)) [.ref b, .int (nI n)] (Cb G b X)) (QM (some (.int ((fact M n).1))) (fun H => ∃ X1, Cb G b X1 H ∧ RelX X1 (fact M n).2 ∧ Ch X1) (blk b (b + 170))) 2 12 (blk b (b + 170)) := by
  refine metN (cc := cL_act) (maxL := 5) (ret := (some .int)) (by decide) rfl ?_
  intro p e s m below meth cd hx hb hr hml hown hts hlocks hP hO hTh hN
  have hg2 : 2 ≤ gm (mN M) := by rw [← nm_gm RX]; exact CX.1
  have hg40 := RX.nw.2.ri.m.2
  have hg0 : 0 < gm (mN M) := Nat.lt_of_lt_of_le (by decide) hg2
  have hg31 : gm (mN M) < 2 ^ 31 := Nat.lt_of_le_of_lt hg40 (by decide)
  have hn16 : n / 16 < 2 ^ 31 := Nat.lt_of_le_of_lt (Nat.div_le_self _ _) hn
  have hnd : ∀ k, n / 16 / k < 2 ^ 31 := fun k => Nat.lt_of_le_of_lt (Nat.div_le_self _ _) hn16
  have hnm : ∀ k, n / 16 % k < 2 ^ 31 := fun k => Nat.lt_of_le_of_lt (Nat.mod_le _ _) hn16
  have hS : va_S (blk b (b + 170)) s.heap s.heap [] := va_S.rf
  have hl := lv_entry ([.ref b, .int (nI n)]) (n := 5) (Nat.le_of_ble_eq_true rfl)
  rw [lg_entry_eq]
  generalize (lg_sl ([.ref b, .int (nI n)]) ++ List.replicate (5 - (lg_sl ([.ref b, .int (nI n)])).length) Slot.unset).toArray = ls at hl ⊢
  have hl : lv_has ls 5 [(0, .ref b), (1, .int (nI n))] := hl
  refine lv_iload_n hx hb dL_act_0 rfl (lv_at hl 1 rfl) ?_
  refine lv_bipush (v := 16) hx hb dL_act_1 (by decide) ?_
  refine idiv_n (a := n) (b := 16) hx hb ⟨hn, by decide, by decide⟩ dL_act_3 ?_
  refine lv_istore_n (lv' := [(2, .int (nI (n / 16))), (0, .ref b), (1, .int (nI n))]) hx hb dL_act_4 rfl hl (by decide) rfl (fun ls hl => ?_)
  refine lv_aload_n hx hb dL_act_5 rfl (lv_at hl 1 rfl) ?_
  refine lv_iconst (v := 2) hx hb dL_act_6 (by decide) ?_
  refine lv_iconst (v := 0) hx hb dL_act_7 (by decide) ?_
  refine lv_iconst (v := 0) hx hb dL_act_8 (by decide) ?_
  refine lv_iconst (v := 0) hx hb dL_act_9 (by decide) ?_
  refine cl_o1 (rSP (A := blk b (b + 170)) (As := [.ref b, .int 2, .int 0, .int 0, .int 0]) (rest := []) ⟨hx, hb, hml, hown, hts⟩ (c_call_2 l G b X 0 0 0 (nI (gm (mN M))) X hst (rd_ab0 RX)) (va_cwS 5 hts gL_act_L_call rfl rfl rfl (by decide +kernel) ⟨(Nat.le_of_ble_eq_true rfl), (Nat.le_of_ble_eq_true rfl)⟩) hP hO (thr_at hTh hS (fun q h => h)) hN rfl hl.1 (Nat.le_of_ble_eq_true rfl) dL_act_10 ⟨(Nat.le_of_ble_eq_true rfl), (Nat.le_of_ble_eq_true rfl)⟩) hS (fun q h => h) (fun H locs hP hS => ?_)
  refine lv_istore_n (lv' := [(3, .int (nI (gm (mN M)))), (2, .int (nI (n / 16))), (0, .ref b), (1, .int (nI n))]) hx hb dL_act_13 rfl hl (by decide) rfl (fun ls hl => ?_)
  refine lv_iload_n hx hb dL_act_14 rfl (lv_at hl 1 rfl) ?_
  refine lv_iload_n hx hb dL_act_15 rfl (lv_at hl 0 rfl) ?_
  refine irem_n (a := n / 16) (b := gm (mN M)) hx hb ⟨hn16, hg0, hg31⟩ dL_act_16 ?_
  refine lv_istore (lv' := [(4, .int (nI ((n / 16) % (gm (mN M))))), (3, .int (nI (gm (mN M)))), (2, .int (nI (n / 16))), (0, .ref b), (1, .int (nI n))]) hx hb dL_act_17 hl (by decide) rfl (fun ls hl => ?_)
  refine lv_iload_n hx hb dL_act_19 rfl (lv_at hl 4 rfl) ?_
  refine lv_bipush (v := 16) hx hb dL_act_20 (by decide) ?_
  refine irem_n (a := n) (b := 16) hx hb ⟨hn, by decide, by decide⟩ dL_act_22 ?_
  rw [hi]
  refine lv_tableIn (off := 165) (tgt := 188) hx hb dL_act_23 (by decide) (by decide) (by decide +kernel) (by decide) ?_
  refine lv_aload_n hx hb dL_act_188 rfl (lv_at hl 3 rfl) ?_
  refine lv_bipush (v := 12) hx hb dL_act_189 (by decide) ?_
  refine lv_iconst (v := 0) hx hb dL_act_191 (by decide) ?_
  refine lv_iload_n hx hb dL_act_192 rfl (lv_at hl 2 rfl) ?_
  refine lv_iconst (v := 3) hx hb dL_act_193 (by decide) ?_
  refine irem_n (a := n / 16) (b := 3) hx hb ⟨hn16, by decide, by decide⟩ dL_act_194 ?_
  refine lv_iconst (v := 0) hx hb dL_act_195 (by decide) ?_
  obtain ⟨u1, hu1⟩ : ∃ u : Nat, u = (n / 16) % 3 := ⟨_, rfl⟩
  rw [← hu1]
  have hq1 := (aq_set 0 (nI u1) RX CX).1
  refine cl_o1 (rSP (A := blk b (b + 170)) (As := [.ref b, .int 12, .int 0, .int (nI u1), .int 0]) (rest := []) ⟨hx, hb, hml, hown, hts⟩ (c_call_12 l G b X 0 (nI u1) 0 _ _ hst (RX).ho (RX).hk hq1) (va_cwS 5 hts gL_act_L_call rfl rfl rfl (by decide +kernel) ⟨(Nat.le_of_ble_eq_true rfl), (Nat.le_of_ble_eq_true rfl)⟩) hP hO (thr_at hTh hS (fun q h => h)) hN rfl hl.1 (Nat.le_of_ble_eq_true rfl) dL_act_196 ⟨(Nat.le_of_ble_eq_true rfl), (Nat.le_of_ble_eq_true rfl)⟩) hS (fun q h => h) (fun H locs hP hS => ?_)
  have hF : fact M n = ((rvE kIAE kIAE (h_X7_set M 0 (nI u1))), (h_X7_set M 0 (nI u1)).2) := by rw [fact_10 hi, hu1]
  exact W.widen (k := 2) (n := 12) (Nat.le_of_ble_eq_true rfl) (Nat.le_of_ble_eq_true rfl) (W.iret hx hb hr (fun t ht hW => ⟨(by rw [fin1 hF]), by rw [ht]; exact ⟨_, hP, fin2 hF ((aq_set 0 (nI u1) RX CX).2.1), ((aq_set 0 (nI u1) RX CX).2.2)⟩, hS.F ht⟩) hS.2.2 dL_act_199)

set_option maxHeartbeats 4000000 in
set_option maxRecDepth 100000 in
theorem c_L_act_11 (l : Launch) (G : GG) (b : Nat) (X : Cx) (M : Mo) (n : Nat) (hst : l.stackTraces = false) (RX : RelX X M) (CX : Ch X) (hn : n < 2 ^ 31) (hi : n % 16 = 11) : Met l yL_act wsL_act ({ frames := 12, cells := 2, slots := 12, locals := 210 }) (PcN G (blk b (b + 170)) [.ref b, .int (nI n)] (Cb G b X)) (QM (some (.int ((fact M n).1))) (fun H => ∃ X1, Cb G b X1 H ∧ RelX X1 (fact M n).2 ∧ Ch X1) (blk b (b + 170))) 2 12 (blk b (b + 170)) := by
  refine metN (cc := cL_act) (maxL := 5) (ret := (some .int)) (by decide) rfl ?_
  intro p e s m below meth cd hx hb hr hml hown hts hlocks hP hO hTh hN
  have hg2 : 2 ≤ gm (mN M) := by rw [← nm_gm RX]; exact CX.1
  have hg40 := RX.nw.2.ri.m.2
  have hg0 : 0 < gm (mN M) := Nat.lt_of_lt_of_le (by decide) hg2
  have hg31 : gm (mN M) < 2 ^ 31 := Nat.lt_of_le_of_lt hg40 (by decide)
  have hn16 : n / 16 < 2 ^ 31 := Nat.lt_of_le_of_lt (Nat.div_le_self _ _) hn
  have hnd : ∀ k, n / 16 / k < 2 ^ 31 := fun k => Nat.lt_of_le_of_lt (Nat.div_le_self _ _) hn16
  have hnm : ∀ k, n / 16 % k < 2 ^ 31 := fun k => Nat.lt_of_le_of_lt (Nat.mod_le _ _) hn16
  have hS : va_S (blk b (b + 170)) s.heap s.heap [] := va_S.rf
  have hl := lv_entry ([.ref b, .int (nI n)]) (n := 5) (Nat.le_of_ble_eq_true rfl)
  rw [lg_entry_eq]
  generalize (lg_sl ([.ref b, .int (nI n)]) ++ List.replicate (5 - (lg_sl ([.ref b, .int (nI n)])).length) Slot.unset).toArray = ls at hl ⊢
  have hl : lv_has ls 5 [(0, .ref b), (1, .int (nI n))] := hl
  refine lv_iload_n hx hb dL_act_0 rfl (lv_at hl 1 rfl) ?_
  refine lv_bipush (v := 16) hx hb dL_act_1 (by decide) ?_
  refine idiv_n (a := n) (b := 16) hx hb ⟨hn, by decide, by decide⟩ dL_act_3 ?_
  refine lv_istore_n (lv' := [(2, .int (nI (n / 16))), (0, .ref b), (1, .int (nI n))]) hx hb dL_act_4 rfl hl (by decide) rfl (fun ls hl => ?_)
  refine lv_aload_n hx hb dL_act_5 rfl (lv_at hl 1 rfl) ?_
  refine lv_iconst (v := 2) hx hb dL_act_6 (by decide) ?_
  refine lv_iconst (v := 0) hx hb dL_act_7 (by decide) ?_
  refine lv_iconst (v := 0) hx hb dL_act_8 (by decide) ?_
  refine lv_iconst (v := 0) hx hb dL_act_9 (by decide) ?_
  refine cl_o1 (rSP (A := blk b (b + 170)) (As := [.ref b, .int 2, .int 0, .int 0, .int 0]) (rest := []) ⟨hx, hb, hml, hown, hts⟩ (c_call_2 l G b X 0 0 0 (nI (gm (mN M))) X hst (rd_ab0 RX)) (va_cwS 5 hts gL_act_L_call rfl rfl rfl (by decide +kernel) ⟨(Nat.le_of_ble_eq_true rfl), (Nat.le_of_ble_eq_true rfl)⟩) hP hO (thr_at hTh hS (fun q h => h)) hN rfl hl.1 (Nat.le_of_ble_eq_true rfl) dL_act_10 ⟨(Nat.le_of_ble_eq_true rfl), (Nat.le_of_ble_eq_true rfl)⟩) hS (fun q h => h) (fun H locs hP hS => ?_)
  refine lv_istore_n (lv' := [(3, .int (nI (gm (mN M)))), (2, .int (nI (n / 16))), (0, .ref b), (1, .int (nI n))]) hx hb dL_act_13 rfl hl (by decide) rfl (fun ls hl => ?_)
  refine lv_iload_n hx hb dL_act_14 rfl (lv_at hl 1 rfl) ?_
  refine lv_iload_n hx hb dL_act_15 rfl (lv_at hl 0 rfl) ?_
  refine irem_n (a := n / 16) (b := gm (mN M)) hx hb ⟨hn16, hg0, hg31⟩ dL_act_16 ?_
  refine lv_istore (lv' := [(4, .int (nI ((n / 16) % (gm (mN M))))), (3, .int (nI (gm (mN M)))), (2, .int (nI (n / 16))), (0, .ref b), (1, .int (nI n))]) hx hb dL_act_17 hl (by decide) rfl (fun ls hl => ?_)
  refine lv_iload_n hx hb dL_act_19 rfl (lv_at hl 4 rfl) ?_
  refine lv_bipush (v := 16) hx hb dL_act_20 (by decide) ?_
  refine irem_n (a := n) (b := 16) hx hb ⟨hn, by decide, by decide⟩ dL_act_22 ?_
  rw [hi]
  refine lv_tableIn (off := 177) (tgt := 200) hx hb dL_act_23 (by decide) (by decide) (by decide +kernel) (by decide) ?_
  refine lv_iload_n hx hb dL_act_200 rfl (lv_at hl 2 rfl) ?_
  refine lv_iconst (v := 2) hx hb dL_act_201 (by decide) ?_
  refine irem_n (a := n / 16) (b := 2) hx hb ⟨hn16, by decide, by decide⟩ dL_act_202 ?_
  refine lv_if_ne (tgt := 222) hx hb dL_act_203 (by decide) (fun c1 => ?_) (fun c1 => ?_)
  · have c1f : ¬ ((n / 16) % 2 : Nat) = 0 := fun z => c1 (congrArg nI z)
    refine lv_aload_n hx hb dL_act_222 rfl (lv_at hl 3 rfl) ?_
    refine lv_bipush (v := 12) hx hb dL_act_223 (by decide) ?_
    refine lv_iconst (v := 2) hx hb dL_act_225 (by decide) ?_
    refine lv_iconst (v := 1) hx hb dL_act_226 (by decide) ?_
    refine lv_iload_n hx hb dL_act_227 rfl (lv_at hl 2 rfl) ?_
    refine lv_iconst (v := 2) hx hb dL_act_228 (by decide) ?_
    refine idiv_n (a := n / 16) (b := 2) hx hb ⟨hn16, by decide, by decide⟩ dL_act_229 ?_
    refine lv_bipush (v := 30) hx hb dL_act_230 (by decide) ?_
    refine irem_n (a := (n / 16) / 2) (b := 30) hx hb ⟨hnd 2, by decide, by decide⟩ dL_act_232 ?_
    refine iadd_n (a := 1) (b := ((n / 16) / 2) % 30) hx hb dL_act_233 ?_
    refine lv_iconst (v := 0) hx hb dL_act_234 (by decide) ?_
    obtain ⟨u1, hu1⟩ : ∃ u : Nat, u = 1 + (((n / 16) / 2) % 30) := ⟨_, rfl⟩
    rw [← hu1]
    have hq2 := (aq_set 2 (nI u1) RX CX).1
    refine cl_o1 (rSP (A := blk b (b + 170)) (As := [.ref b, .int 12, .int 2, .int (nI u1), .int 0]) (rest := []) ⟨hx, hb, hml, hown, hts⟩ (c_call_12 l G b X 2 (nI u1) 0 _ _ hst (RX).ho (RX).hk hq2) (va_cwS 5 hts gL_act_L_call rfl rfl rfl (by decide +kernel) ⟨(Nat.le_of_ble_eq_true rfl), (Nat.le_of_ble_eq_true rfl)⟩) hP hO (thr_at hTh hS (fun q h => h)) hN rfl hl.1 (Nat.le_of_ble_eq_true rfl) dL_act_235 ⟨(Nat.le_of_ble_eq_true rfl), (Nat.le_of_ble_eq_true rfl)⟩) hS (fun q h => h) (fun H locs hP hS => ?_)
    have hF : fact M n = ((rvE kIAE kIAE (h_X7_set M 2 (nI u1))), (h_X7_set M 2 (nI u1)).2) := by rw [fact_11 hi, if_neg c1f, hu1]
    exact W.widen (k := 2) (n := 12) (Nat.le_of_ble_eq_true rfl) (Nat.le_of_ble_eq_true rfl) (W.iret hx hb hr (fun t ht hW => ⟨(by rw [fin1 hF]), by rw [ht]; exact ⟨_, hP, fin2 hF ((aq_set 2 (nI u1) RX CX).2.1), ((aq_set 2 (nI u1) RX CX).2.2)⟩, hS.F ht⟩) hS.2.2 dL_act_238)
  · have c1f : ((n / 16) % 2 : Nat) = 0 := nI_inj (a := (n / 16) % 2) (b := 0) (by omega) (by omega) c1
    refine lv_aload_n hx hb dL_act_206 rfl (lv_at hl 3 rfl) ?_
    refine lv_bipush (v := 12) hx hb dL_act_207 (by decide) ?_
    refine lv_iconst (v := 1) hx hb dL_act_209 (by decide) ?_
    refine lv_iload_n hx hb dL_act_210 rfl (lv_at hl 2 rfl) ?_
    refine lv_iconst (v := 2) hx hb dL_act_211 (by decide) ?_
    refine idiv_n (a := n / 16) (b := 2) hx hb ⟨hn16, by decide, by decide⟩ dL_act_212 ?_
    refine lv_iconst (v := 5) hx hb dL_act_213 (by decide) ?_
    refine irem_n (a := (n / 16) / 2) (b := 5) hx hb ⟨hnd 2, by decide, by decide⟩ dL_act_214 ?_
    refine lv_iconst (v := 0) hx hb dL_act_215 (by decide) ?_
    obtain ⟨u1, hu1⟩ : ∃ u : Nat, u = ((n / 16) / 2) % 5 := ⟨_, rfl⟩
    rw [← hu1]
    have hq3 := (aq_set 1 (nI u1) RX CX).1
    refine cl_o1 (rSP (A := blk b (b + 170)) (As := [.ref b, .int 12, .int 1, .int (nI u1), .int 0]) (rest := []) ⟨hx, hb, hml, hown, hts⟩ (c_call_12 l G b X 1 (nI u1) 0 _ _ hst (RX).ho (RX).hk hq3) (va_cwS 5 hts gL_act_L_call rfl rfl rfl (by decide +kernel) ⟨(Nat.le_of_ble_eq_true rfl), (Nat.le_of_ble_eq_true rfl)⟩) hP hO (thr_at hTh hS (fun q h => h)) hN rfl hl.1 (Nat.le_of_ble_eq_true rfl) dL_act_216 ⟨(Nat.le_of_ble_eq_true rfl), (Nat.le_of_ble_eq_true rfl)⟩) hS (fun q h => h) (fun H locs hP hS => ?_)
    refine lv_goto (tgt := 238) hx hb dL_act_219 (by decide) ?_
    have hF : fact M n = ((rvE kIAE kIAE (h_X7_set M 1 (nI u1))), (h_X7_set M 1 (nI u1)).2) := by rw [fact_11 hi, if_pos c1f, hu1]
    exact W.widen (k := 2) (n := 12) (Nat.le_of_ble_eq_true rfl) (Nat.le_of_ble_eq_true rfl) (W.iret hx hb hr (fun t ht hW => ⟨(by rw [fin1 hF]), by rw [ht]; exact ⟨_, hP, fin2 hF ((aq_set 1 (nI u1) RX CX).2.1), ((aq_set 1 (nI u1) RX CX).2.2)⟩, hS.F ht⟩) hS.2.2 dL_act_238)

set_option maxHeartbeats 4000000 in
set_option maxRecDepth 100000 in
theorem c_L_act_12 (l : Launch) (G : GG) (b : Nat) (X : Cx) (M : Mo) (n : Nat) (hst : l.stackTraces = false) (RX : RelX X M) (CX : Ch X) (hn : n < 2 ^ 31) (hi : n % 16 = 12) : Met l yL_act wsL_act ({ frames := 12, cells := 2, slots := 12, locals := 210 }) (PcN G (blk b (b + 170)) [.ref b, .int (nI n)] (Cb G b X)) (QM (some (.int ((fact M n).1))) (fun H => ∃ X1, Cb G b X1 H ∧ RelX X1 (fact M n).2 ∧ Ch X1) (blk b (b + 170))) 2 12 (blk b (b + 170)) := by
  refine metN (cc := cL_act) (maxL := 5) (ret := (some .int)) (by decide) rfl ?_
  intro p e s m below meth cd hx hb hr hml hown hts hlocks hP hO hTh hN
  have hg2 : 2 ≤ gm (mN M) := by rw [← nm_gm RX]; exact CX.1
  have hg40 := RX.nw.2.ri.m.2
  have hg0 : 0 < gm (mN M) := Nat.lt_of_lt_of_le (by decide) hg2
  have hg31 : gm (mN M) < 2 ^ 31 := Nat.lt_of_le_of_lt hg40 (by decide)
  have hn16 : n / 16 < 2 ^ 31 := Nat.lt_of_le_of_lt (Nat.div_le_self _ _) hn
  have hnd : ∀ k, n / 16 / k < 2 ^ 31 := fun k => Nat.lt_of_le_of_lt (Nat.div_le_self _ _) hn16
  have hnm : ∀ k, n / 16 % k < 2 ^ 31 := fun k => Nat.lt_of_le_of_lt (Nat.mod_le _ _) hn16
  have hS : va_S (blk b (b + 170)) s.heap s.heap [] := va_S.rf
  have hl := lv_entry ([.ref b, .int (nI n)]) (n := 5) (Nat.le_of_ble_eq_true rfl)
  rw [lg_entry_eq]
  generalize (lg_sl ([.ref b, .int (nI n)]) ++ List.replicate (5 - (lg_sl ([.ref b, .int (nI n)])).length) Slot.unset).toArray = ls at hl ⊢
  have hl : lv_has ls 5 [(0, .ref b), (1, .int (nI n))] := hl
  refine lv_iload_n hx hb dL_act_0 rfl (lv_at hl 1 rfl) ?_
  refine lv_bipush (v := 16) hx hb dL_act_1 (by decide) ?_
  refine idiv_n (a := n) (b := 16) hx hb ⟨hn, by decide, by decide⟩ dL_act_3 ?_
  refine lv_istore_n (lv' := [(2, .int (nI (n / 16))), (0, .ref b), (1, .int (nI n))]) hx hb dL_act_4 rfl hl (by decide) rfl (fun ls hl => ?_)
  refine lv_aload_n hx hb dL_act_5 rfl (lv_at hl 1 rfl) ?_
  refine lv_iconst (v := 2) hx hb dL_act_6 (by decide) ?_
  refine lv_iconst (v := 0) hx hb dL_act_7 (by decide) ?_
  refine lv_iconst (v := 0) hx hb dL_act_8 (by decide) ?_
  refine lv_iconst (v := 0) hx hb dL_act_9 (by decide) ?_
  refine cl_o1 (rSP (A := blk b (b + 170)) (As := [.ref b, .int 2, .int 0, .int 0, .int 0]) (rest := []) ⟨hx, hb, hml, hown, hts⟩ (c_call_2 l G b X 0 0 0 (nI (gm (mN M))) X hst (rd_ab0 RX)) (va_cwS 5 hts gL_act_L_call rfl rfl rfl (by decide +kernel) ⟨(Nat.le_of_ble_eq_true rfl), (Nat.le_of_ble_eq_true rfl)⟩) hP hO (thr_at hTh hS (fun q h => h)) hN rfl hl.1 (Nat.le_of_ble_eq_true rfl) dL_act_10 ⟨(Nat.le_of_ble_eq_true rfl), (Nat.le_of_ble_eq_true rfl)⟩) hS (fun q h => h) (fun H locs hP hS => ?_)
  refine lv_istore_n (lv' := [(3, .int (nI (gm (mN M)))), (2, .int (nI (n / 16))), (0, .ref b), (1, .int (nI n))]) hx hb dL_act_13 rfl hl (by decide) rfl (fun ls hl => ?_)
  refine lv_iload_n hx hb dL_act_14 rfl (lv_at hl 1 rfl) ?_
  refine lv_iload_n hx hb dL_act_15 rfl (lv_at hl 0 rfl) ?_
  refine irem_n (a := n / 16) (b := gm (mN M)) hx hb ⟨hn16, hg0, hg31⟩ dL_act_16 ?_
  refine lv_istore (lv' := [(4, .int (nI ((n / 16) % (gm (mN M))))), (3, .int (nI (gm (mN M)))), (2, .int (nI (n / 16))), (0, .ref b), (1, .int (nI n))]) hx hb dL_act_17 hl (by decide) rfl (fun ls hl => ?_)
  refine lv_iload_n hx hb dL_act_19 rfl (lv_at hl 4 rfl) ?_
  refine lv_bipush (v := 16) hx hb dL_act_20 (by decide) ?_
  refine irem_n (a := n) (b := 16) hx hb ⟨hn, by decide, by decide⟩ dL_act_22 ?_
  rw [hi]
  refine lv_tableIn (off := 216) (tgt := 239) hx hb dL_act_23 (by decide) (by decide) (by decide +kernel) (by decide) ?_
  refine lv_iload_n hx hb dL_act_239 rfl (lv_at hl 1 rfl) ?_
  refine lv_iconst (v := 3) hx hb dL_act_240 (by decide) ?_
  refine lv_icmp_ge (tgt := 248) hx hb dL_act_241 (by decide) (fun c1 => ?_) (fun c1 => ?_)
  · have c1f : 3 ≤ gm (mN M) := (nI_leI (a := 3) (b := gm (mN M)) (by omega) (by omega)).mp c1
    refine lv_aload_n hx hb dL_act_248 rfl (lv_at hl 3 rfl) ?_
    refine lv_bipush (v := 13) hx hb dL_act_249 (by decide) ?_
    refine lv_iconst (v := 0) hx hb dL_act_251 (by decide) ?_
    refine lv_iconst (v := 0) hx hb dL_act_252 (by decide) ?_
    refine lv_iconst (v := 0) hx hb dL_act_253 (by decide) ?_
    have hq2 := (aq_undo RX CX (by omega)).1
    refine cl_o1 (rSP (A := blk b (b + 170)) (As := [.ref b, .int 13, .int 0, .int 0, .int 0]) (rest := []) ⟨hx, hb, hml, hown, hts⟩ (c_call_13 l G b X 0 0 0 _ _ hst (RX).ho (RX).hk hq2) (va_cwS 5 hts gL_act_L_call rfl rfl rfl (by decide +kernel) ⟨(Nat.le_of_ble_eq_true rfl), (Nat.le_of_ble_eq_true rfl)⟩) hP hO (thr_at hTh hS (fun q h => h)) hN rfl hl.1 (Nat.le_of_ble_eq_true rfl) dL_act_254 ⟨(Nat.le_of_ble_eq_true rfl), (Nat.le_of_ble_eq_true rfl)⟩) hS (fun q h => h) (fun H locs hP hS => ?_)
    have hF : fact M n = ((rvE kISE kISE (h_X7_undo M)), (h_X7_undo M).2) := by rw [fact_12 hi, if_neg (Nat.not_lt.mpr c1f)]
    exact W.widen (k := 2) (n := 12) (Nat.le_of_ble_eq_true rfl) (Nat.le_of_ble_eq_true rfl) (W.iret hx hb hr (fun t ht hW => ⟨(by rw [fin1 hF]), by rw [ht]; exact ⟨_, hP, fin2 hF ((aq_undo RX CX (by omega)).2.1), ((aq_undo RX CX (by omega)).2.2)⟩, hS.F ht⟩) hS.2.2 dL_act_257)
  · have c1f : ¬ 3 ≤ (gm (mN M)) := fun z => c1 ((nI_leI (a := 3) (b := gm (mN M)) (by omega) (by omega)).mpr z)
    refine lv_iconst (v := -1) hx hb dL_act_244 (by decide) ?_
    refine lv_goto (tgt := 257) hx hb dL_act_245 (by decide) ?_
    have hF : fact M n = ((-1), M) := by rw [fact_12 hi, if_pos (Nat.lt_of_not_le c1f)]
    exact W.widen (k := 2) (n := 12) (Nat.le_of_ble_eq_true rfl) (Nat.le_of_ble_eq_true rfl) (W.iret hx hb hr (fun t ht hW => ⟨(by rw [fin1 hF]), by rw [ht]; exact ⟨_, hP, fin2 hF RX, CX⟩, hS.F ht⟩) hS.2.2 dL_act_257)

set_option maxHeartbeats 4000000 in
set_option maxRecDepth 100000 in
theorem c_L_act_13 (l : Launch) (G : GG) (b : Nat) (X : Cx) (M : Mo) (n : Nat) (hst : l.stackTraces = false) (RX : RelX X M) (CX : Ch X) (hn : n < 2 ^ 31) (hi : n % 16 = 13) : Met l yL_act wsL_act ({ frames := 12, cells := 2, slots := 12, locals := 210 }) (PcN G (blk b (b + 170)) [.ref b, .int (nI n)] (Cb G b X)) (QM (some (.int ((fact M n).1))) (fun H => ∃ X1, Cb G b X1 H ∧ RelX X1 (fact M n).2 ∧ Ch X1) (blk b (b + 170))) 2 12 (blk b (b + 170)) := by
  refine metN (cc := cL_act) (maxL := 5) (ret := (some .int)) (by decide) rfl ?_
  intro p e s m below meth cd hx hb hr hml hown hts hlocks hP hO hTh hN
  have hg2 : 2 ≤ gm (mN M) := by rw [← nm_gm RX]; exact CX.1
  have hg40 := RX.nw.2.ri.m.2
  have hg0 : 0 < gm (mN M) := Nat.lt_of_lt_of_le (by decide) hg2
  have hg31 : gm (mN M) < 2 ^ 31 := Nat.lt_of_le_of_lt hg40 (by decide)
  have hn16 : n / 16 < 2 ^ 31 := Nat.lt_of_le_of_lt (Nat.div_le_self _ _) hn
  have hnd : ∀ k, n / 16 / k < 2 ^ 31 := fun k => Nat.lt_of_le_of_lt (Nat.div_le_self _ _) hn16
  have hnm : ∀ k, n / 16 % k < 2 ^ 31 := fun k => Nat.lt_of_le_of_lt (Nat.mod_le _ _) hn16
  have hS : va_S (blk b (b + 170)) s.heap s.heap [] := va_S.rf
  have hl := lv_entry ([.ref b, .int (nI n)]) (n := 5) (Nat.le_of_ble_eq_true rfl)
  rw [lg_entry_eq]
  generalize (lg_sl ([.ref b, .int (nI n)]) ++ List.replicate (5 - (lg_sl ([.ref b, .int (nI n)])).length) Slot.unset).toArray = ls at hl ⊢
  have hl : lv_has ls 5 [(0, .ref b), (1, .int (nI n))] := hl
  refine lv_iload_n hx hb dL_act_0 rfl (lv_at hl 1 rfl) ?_
  refine lv_bipush (v := 16) hx hb dL_act_1 (by decide) ?_
  refine idiv_n (a := n) (b := 16) hx hb ⟨hn, by decide, by decide⟩ dL_act_3 ?_
  refine lv_istore_n (lv' := [(2, .int (nI (n / 16))), (0, .ref b), (1, .int (nI n))]) hx hb dL_act_4 rfl hl (by decide) rfl (fun ls hl => ?_)
  refine lv_aload_n hx hb dL_act_5 rfl (lv_at hl 1 rfl) ?_
  refine lv_iconst (v := 2) hx hb dL_act_6 (by decide) ?_
  refine lv_iconst (v := 0) hx hb dL_act_7 (by decide) ?_
  refine lv_iconst (v := 0) hx hb dL_act_8 (by decide) ?_
  refine lv_iconst (v := 0) hx hb dL_act_9 (by decide) ?_
  refine cl_o1 (rSP (A := blk b (b + 170)) (As := [.ref b, .int 2, .int 0, .int 0, .int 0]) (rest := []) ⟨hx, hb, hml, hown, hts⟩ (c_call_2 l G b X 0 0 0 (nI (gm (mN M))) X hst (rd_ab0 RX)) (va_cwS 5 hts gL_act_L_call rfl rfl rfl (by decide +kernel) ⟨(Nat.le_of_ble_eq_true rfl), (Nat.le_of_ble_eq_true rfl)⟩) hP hO (thr_at hTh hS (fun q h => h)) hN rfl hl.1 (Nat.le_of_ble_eq_true rfl) dL_act_10 ⟨(Nat.le_of_ble_eq_true rfl), (Nat.le_of_ble_eq_true rfl)⟩) hS (fun q h => h) (fun H locs hP hS => ?_)
  refine lv_istore_n (lv' := [(3, .int (nI (gm (mN M)))), (2, .int (nI (n / 16))), (0, .ref b), (1, .int (nI n))]) hx hb dL_act_13 rfl hl (by decide) rfl (fun ls hl => ?_)
  refine lv_iload_n hx hb dL_act_14 rfl (lv_at hl 1 rfl) ?_
  refine lv_iload_n hx hb dL_act_15 rfl (lv_at hl 0 rfl) ?_
  refine irem_n (a := n / 16) (b := gm (mN M)) hx hb ⟨hn16, hg0, hg31⟩ dL_act_16 ?_
  refine lv_istore (lv' := [(4, .int (nI ((n / 16) % (gm (mN M))))), (3, .int (nI (gm (mN M)))), (2, .int (nI (n / 16))), (0, .ref b), (1, .int (nI n))]) hx hb dL_act_17 hl (by decide) rfl (fun ls hl => ?_)
  refine lv_iload_n hx hb dL_act_19 rfl (lv_at hl 4 rfl) ?_
  refine lv_bipush (v := 16) hx hb dL_act_20 (by decide) ?_
  refine irem_n (a := n) (b := 16) hx hb ⟨hn, by decide, by decide⟩ dL_act_22 ?_
  rw [hi]
  refine lv_tableIn (off := 235) (tgt := 258) hx hb dL_act_23 (by decide) (by decide) (by decide +kernel) (by decide) ?_
  refine lv_iload_n hx hb dL_act_258 rfl (lv_at hl 2 rfl) ?_
  refine lv_iconst (v := 2) hx hb dL_act_259 (by decide) ?_
  refine irem_n (a := n / 16) (b := 2) hx hb ⟨hn16, by decide, by decide⟩ dL_act_260 ?_
  refine lv_if_ne (tgt := 280) hx hb dL_act_261 (by decide) (fun c1 => ?_) (fun c1 => ?_)
  · have c1f : ¬ ((n / 16) % 2 : Nat) = 0 := fun z => c1 (congrArg nI z)
    refine lv_aload_n hx hb dL_act_280 rfl (lv_at hl 3 rfl) ?_
    refine lv_bipush (v := 20) hx hb dL_act_281 (by decide) ?_
    refine lv_iload_n hx hb dL_act_283 rfl (lv_at hl 2 rfl) ?_
    refine lv_iconst (v := 2) hx hb dL_act_284 (by decide) ?_
    refine idiv_n (a := n / 16) (b := 2) hx hb ⟨hn16, by decide, by decide⟩ dL_act_285 ?_
    refine lv_iconst (v := 2) hx hb dL_act_286 (by decide) ?_
    refine irem_n (a := (n / 16) / 2) (b := 2) hx hb ⟨hnd 2, by decide, by decide⟩ dL_act_287 ?_
    refine lv_iconst (v := 0) hx hb dL_act_288 (by decide) ?_
    refine lv_iconst (v := 0) hx hb dL_act_289 (by decide) ?_
    obtain ⟨u1, hu1⟩ : ∃ u : Nat, u = ((n / 16) / 2) % 2 := ⟨_, rfl⟩
    rw [← hu1]
    have hq2 := (aq_restore (j := u1) (by omega) RX CX).1
    refine cl_o1 (rSP (A := blk b (b + 170)) (As := [.ref b, .int 20, .int (nI u1), .int 0, .int 0]) (rest := []) ⟨hx, hb, hml, hown, hts⟩ (c_call_20 l G b X (nI u1) 0 0 _ _ hst hq2) (va_cwS 5 hts gL_act_L_call rfl rfl rfl (by decide +kernel) ⟨(Nat.le_of_ble_eq_true rfl), (Nat.le_of_ble_eq_true rfl)⟩) hP hO (thr_at hTh hS (fun q h => h)) hN rfl hl.1 (Nat.le_of_ble_eq_true rfl) dL_act_290 ⟨(Nat.le_of_ble_eq_true rfl), (Nat.le_of_ble_eq_true rfl)⟩) hS (fun q h => h) (fun H locs hP hS => ?_)
    have hF : fact M n = ((rvE kIOO kISE (h_X7_restore M (nI u1))), (h_X7_restore M (nI u1)).2) := by rw [fact_13 hi, if_neg c1f, hu1]
    exact W.widen (k := 2) (n := 12) (Nat.le_of_ble_eq_true rfl) (Nat.le_of_ble_eq_true rfl) (W.iret hx hb hr (fun t ht hW => ⟨(by rw [fin1 hF]), by rw [ht]; exact ⟨_, hP, fin2 hF ((aq_restore (j := u1) (by omega) RX CX).2.1), ((aq_restore (j := u1) (by omega) RX CX).2.2)⟩, hS.F ht⟩) hS.2.2 dL_act_293)
  · have c1f : ((n / 16) % 2 : Nat) = 0 := nI_inj (a := (n / 16) % 2) (b := 0) (by omega) (by omega) c1
    refine lv_aload_n hx hb dL_act_264 rfl (lv_at hl 3 rfl) ?_
    refine lv_bipush (v := 19) hx hb dL_act_265 (by decide) ?_
    refine lv_iload_n hx hb dL_act_267 rfl (lv_at hl 2 rfl) ?_
    refine lv_iconst (v := 2) hx hb dL_act_268 (by decide) ?_
    refine idiv_n (a := n / 16) (b := 2) hx hb ⟨hn16, by decide, by decide⟩ dL_act_269 ?_
    refine lv_iconst (v := 2) hx hb dL_act_270 (by decide) ?_
    refine irem_n (a := (n / 16) / 2) (b := 2) hx hb ⟨hnd 2, by decide, by decide⟩ dL_act_271 ?_
    refine lv_iconst (v := 0) hx hb dL_act_272 (by decide) ?_
    refine lv_iconst (v := 0) hx hb dL_act_273 (by decide) ?_
    obtain ⟨u1, hu1⟩ : ∃ u : Nat, u = ((n / 16) / 2) % 2 := ⟨_, rfl⟩
    rw [← hu1]
    have hq3 := (aq_save (j := u1) (by omega) RX CX).1
    refine cl_o1 (rSP (A := blk b (b + 170)) (As := [.ref b, .int 19, .int (nI u1), .int 0, .int 0]) (rest := []) ⟨hx, hb, hml, hown, hts⟩ (c_call_19 l G b X (nI u1) 0 0 _ _ hst hq3) (va_cwS 5 hts gL_act_L_call rfl rfl rfl (by decide +kernel) ⟨(Nat.le_of_ble_eq_true rfl), (Nat.le_of_ble_eq_true rfl)⟩) hP hO (thr_at hTh hS (fun q h => h)) hN rfl hl.1 (Nat.le_of_ble_eq_true rfl) dL_act_274 ⟨(Nat.le_of_ble_eq_true rfl), (Nat.le_of_ble_eq_true rfl)⟩) hS (fun q h => h) (fun H locs hP hS => ?_)
    refine lv_goto (tgt := 293) hx hb dL_act_277 (by decide) ?_
    have hF : fact M n = ((rvE kIOO kIOO (h_X7_save M (nI u1))), (h_X7_save M (nI u1)).2) := by rw [fact_13 hi, if_pos c1f, hu1]
    exact W.widen (k := 2) (n := 12) (Nat.le_of_ble_eq_true rfl) (Nat.le_of_ble_eq_true rfl) (W.iret hx hb hr (fun t ht hW => ⟨(by rw [fin1 hF]), by rw [ht]; exact ⟨_, hP, fin2 hF ((aq_save (j := u1) (by omega) RX CX).2.1), ((aq_save (j := u1) (by omega) RX CX).2.2)⟩, hS.F ht⟩) hS.2.2 dL_act_293)

set_option maxHeartbeats 4000000 in
set_option maxRecDepth 100000 in
theorem c_L_act_14 (l : Launch) (G : GG) (b : Nat) (X : Cx) (M : Mo) (n : Nat) (hst : l.stackTraces = false) (RX : RelX X M) (CX : Ch X) (hn : n < 2 ^ 31) (hi : n % 16 = 14) : Met l yL_act wsL_act ({ frames := 12, cells := 2, slots := 12, locals := 210 }) (PcN G (blk b (b + 170)) [.ref b, .int (nI n)] (Cb G b X)) (QM (some (.int ((fact M n).1))) (fun H => ∃ X1, Cb G b X1 H ∧ RelX X1 (fact M n).2 ∧ Ch X1) (blk b (b + 170))) 2 12 (blk b (b + 170)) := by
  refine metN (cc := cL_act) (maxL := 5) (ret := (some .int)) (by decide) rfl ?_
  intro p e s m below meth cd hx hb hr hml hown hts hlocks hP hO hTh hN
  have hg2 : 2 ≤ gm (mN M) := by rw [← nm_gm RX]; exact CX.1
  have hg40 := RX.nw.2.ri.m.2
  have hg0 : 0 < gm (mN M) := Nat.lt_of_lt_of_le (by decide) hg2
  have hg31 : gm (mN M) < 2 ^ 31 := Nat.lt_of_le_of_lt hg40 (by decide)
  have hn16 : n / 16 < 2 ^ 31 := Nat.lt_of_le_of_lt (Nat.div_le_self _ _) hn
  have hnd : ∀ k, n / 16 / k < 2 ^ 31 := fun k => Nat.lt_of_le_of_lt (Nat.div_le_self _ _) hn16
  have hnm : ∀ k, n / 16 % k < 2 ^ 31 := fun k => Nat.lt_of_le_of_lt (Nat.mod_le _ _) hn16
  have hS : va_S (blk b (b + 170)) s.heap s.heap [] := va_S.rf
  have hl := lv_entry ([.ref b, .int (nI n)]) (n := 5) (Nat.le_of_ble_eq_true rfl)
  rw [lg_entry_eq]
  generalize (lg_sl ([.ref b, .int (nI n)]) ++ List.replicate (5 - (lg_sl ([.ref b, .int (nI n)])).length) Slot.unset).toArray = ls at hl ⊢
  have hl : lv_has ls 5 [(0, .ref b), (1, .int (nI n))] := hl
  refine lv_iload_n hx hb dL_act_0 rfl (lv_at hl 1 rfl) ?_
  refine lv_bipush (v := 16) hx hb dL_act_1 (by decide) ?_
  refine idiv_n (a := n) (b := 16) hx hb ⟨hn, by decide, by decide⟩ dL_act_3 ?_
  refine lv_istore_n (lv' := [(2, .int (nI (n / 16))), (0, .ref b), (1, .int (nI n))]) hx hb dL_act_4 rfl hl (by decide) rfl (fun ls hl => ?_)
  refine lv_aload_n hx hb dL_act_5 rfl (lv_at hl 1 rfl) ?_
  refine lv_iconst (v := 2) hx hb dL_act_6 (by decide) ?_
  refine lv_iconst (v := 0) hx hb dL_act_7 (by decide) ?_
  refine lv_iconst (v := 0) hx hb dL_act_8 (by decide) ?_
  refine lv_iconst (v := 0) hx hb dL_act_9 (by decide) ?_
  refine cl_o1 (rSP (A := blk b (b + 170)) (As := [.ref b, .int 2, .int 0, .int 0, .int 0]) (rest := []) ⟨hx, hb, hml, hown, hts⟩ (c_call_2 l G b X 0 0 0 (nI (gm (mN M))) X hst (rd_ab0 RX)) (va_cwS 5 hts gL_act_L_call rfl rfl rfl (by decide +kernel) ⟨(Nat.le_of_ble_eq_true rfl), (Nat.le_of_ble_eq_true rfl)⟩) hP hO (thr_at hTh hS (fun q h => h)) hN rfl hl.1 (Nat.le_of_ble_eq_true rfl) dL_act_10 ⟨(Nat.le_of_ble_eq_true rfl), (Nat.le_of_ble_eq_true rfl)⟩) hS (fun q h => h) (fun H locs hP hS => ?_)
  refine lv_istore_n (lv' := [(3, .int (nI (gm (mN M)))), (2, .int (nI (n / 16))), (0, .ref b), (1, .int (nI n))]) hx hb dL_act_13 rfl hl (by decide) rfl (fun ls hl => ?_)
  refine lv_iload_n hx hb dL_act_14 rfl (lv_at hl 1 rfl) ?_
  refine lv_iload_n hx hb dL_act_15 rfl (lv_at hl 0 rfl) ?_
  refine irem_n (a := n / 16) (b := gm (mN M)) hx hb ⟨hn16, hg0, hg31⟩ dL_act_16 ?_
  refine lv_istore (lv' := [(4, .int (nI ((n / 16) % (gm (mN M))))), (3, .int (nI (gm (mN M)))), (2, .int (nI (n / 16))), (0, .ref b), (1, .int (nI n))]) hx hb dL_act_17 hl (by decide) rfl (fun ls hl => ?_)
  refine lv_iload_n hx hb dL_act_19 rfl (lv_at hl 4 rfl) ?_
  refine lv_bipush (v := 16) hx hb dL_act_20 (by decide) ?_
  refine irem_n (a := n) (b := 16) hx hb ⟨hn, by decide, by decide⟩ dL_act_22 ?_
  rw [hi]
  refine lv_tableOut (tgt := 294) hx hb dL_act_23 (by decide) (by decide) ?_
  refine lv_aload_n hx hb dL_act_294 rfl (lv_at hl 3 rfl) ?_
  refine lv_bipush (v := 11) hx hb dL_act_295 (by decide) ?_
  refine lv_iconst (v := 1) hx hb dL_act_297 (by decide) ?_
  refine lv_iload_n hx hb dL_act_298 rfl (lv_at hl 2 rfl) ?_
  refine lv_bipush (v := 9) hx hb dL_act_299 (by decide) ?_
  refine irem_n (a := n / 16) (b := 9) hx hb ⟨hn16, by decide, by decide⟩ dL_act_301 ?_
  refine iadd_n (a := 1) (b := (n / 16) % 9) hx hb dL_act_302 ?_
  refine lv_iconst (v := 0) hx hb dL_act_303 (by decide) ?_
  refine lv_iconst (v := 0) hx hb dL_act_304 (by decide) ?_
  obtain ⟨u1, hu1⟩ : ∃ u : Nat, u = 1 + ((n / 16) % 9) := ⟨_, rfl⟩
  rw [← hu1]
  have hq1 := (aq_min (p := u1) (by omega) RX CX).1
  refine cl_o1 (rSP (A := blk b (b + 170)) (As := [.ref b, .int 11, .int (nI u1), .int 0, .int 0]) (rest := []) ⟨hx, hb, hml, hown, hts⟩ (c_call_11 l G b X (nI u1) 0 0 _ _ hst (RX).ho (RX).hk hq1) (va_cwS 5 hts gL_act_L_call rfl rfl rfl (by decide +kernel) ⟨(Nat.le_of_ble_eq_true rfl), (Nat.le_of_ble_eq_true rfl)⟩) hP hO (thr_at hTh hS (fun q h => h)) hN rfl hl.1 (Nat.le_of_ble_eq_true rfl) dL_act_305 ⟨(Nat.le_of_ble_eq_true rfl), (Nat.le_of_ble_eq_true rfl)⟩) hS (fun q h => h) (fun H locs hP hS => ?_)
  have hF : fact M n = ((h_X7_minutesOn (mN M) (nI u1)).1, (h_X7_minutes M (nI u1)).2) := by rw [fact_14 hi, hu1]
  exact W.widen (k := 2) (n := 12) (Nat.le_of_ble_eq_true rfl) (Nat.le_of_ble_eq_true rfl) (W.iret hx hb hr (fun t ht hW => ⟨(by rw [fin1 hF]), by rw [ht]; exact ⟨_, hP, fin2 hF ((aq_min (p := u1) (by omega) RX CX).2.1), ((aq_min (p := u1) (by omega) RX CX).2.2)⟩, hS.F ht⟩) hS.2.2 dL_act_308)

set_option maxHeartbeats 4000000 in
set_option maxRecDepth 100000 in
theorem c_L_act_15 (l : Launch) (G : GG) (b : Nat) (X : Cx) (M : Mo) (n : Nat) (hst : l.stackTraces = false) (RX : RelX X M) (CX : Ch X) (hn : n < 2 ^ 31) (hi : n % 16 = 15) : Met l yL_act wsL_act ({ frames := 12, cells := 2, slots := 12, locals := 210 }) (PcN G (blk b (b + 170)) [.ref b, .int (nI n)] (Cb G b X)) (QM (some (.int ((fact M n).1))) (fun H => ∃ X1, Cb G b X1 H ∧ RelX X1 (fact M n).2 ∧ Ch X1) (blk b (b + 170))) 2 12 (blk b (b + 170)) := by
  refine metN (cc := cL_act) (maxL := 5) (ret := (some .int)) (by decide) rfl ?_
  intro p e s m below meth cd hx hb hr hml hown hts hlocks hP hO hTh hN
  have hg2 : 2 ≤ gm (mN M) := by rw [← nm_gm RX]; exact CX.1
  have hg40 := RX.nw.2.ri.m.2
  have hg0 : 0 < gm (mN M) := Nat.lt_of_lt_of_le (by decide) hg2
  have hg31 : gm (mN M) < 2 ^ 31 := Nat.lt_of_le_of_lt hg40 (by decide)
  have hn16 : n / 16 < 2 ^ 31 := Nat.lt_of_le_of_lt (Nat.div_le_self _ _) hn
  have hnd : ∀ k, n / 16 / k < 2 ^ 31 := fun k => Nat.lt_of_le_of_lt (Nat.div_le_self _ _) hn16
  have hnm : ∀ k, n / 16 % k < 2 ^ 31 := fun k => Nat.lt_of_le_of_lt (Nat.mod_le _ _) hn16
  have hS : va_S (blk b (b + 170)) s.heap s.heap [] := va_S.rf
  have hl := lv_entry ([.ref b, .int (nI n)]) (n := 5) (Nat.le_of_ble_eq_true rfl)
  rw [lg_entry_eq]
  generalize (lg_sl ([.ref b, .int (nI n)]) ++ List.replicate (5 - (lg_sl ([.ref b, .int (nI n)])).length) Slot.unset).toArray = ls at hl ⊢
  have hl : lv_has ls 5 [(0, .ref b), (1, .int (nI n))] := hl
  refine lv_iload_n hx hb dL_act_0 rfl (lv_at hl 1 rfl) ?_
  refine lv_bipush (v := 16) hx hb dL_act_1 (by decide) ?_
  refine idiv_n (a := n) (b := 16) hx hb ⟨hn, by decide, by decide⟩ dL_act_3 ?_
  refine lv_istore_n (lv' := [(2, .int (nI (n / 16))), (0, .ref b), (1, .int (nI n))]) hx hb dL_act_4 rfl hl (by decide) rfl (fun ls hl => ?_)
  refine lv_aload_n hx hb dL_act_5 rfl (lv_at hl 1 rfl) ?_
  refine lv_iconst (v := 2) hx hb dL_act_6 (by decide) ?_
  refine lv_iconst (v := 0) hx hb dL_act_7 (by decide) ?_
  refine lv_iconst (v := 0) hx hb dL_act_8 (by decide) ?_
  refine lv_iconst (v := 0) hx hb dL_act_9 (by decide) ?_
  refine cl_o1 (rSP (A := blk b (b + 170)) (As := [.ref b, .int 2, .int 0, .int 0, .int 0]) (rest := []) ⟨hx, hb, hml, hown, hts⟩ (c_call_2 l G b X 0 0 0 (nI (gm (mN M))) X hst (rd_ab0 RX)) (va_cwS 5 hts gL_act_L_call rfl rfl rfl (by decide +kernel) ⟨(Nat.le_of_ble_eq_true rfl), (Nat.le_of_ble_eq_true rfl)⟩) hP hO (thr_at hTh hS (fun q h => h)) hN rfl hl.1 (Nat.le_of_ble_eq_true rfl) dL_act_10 ⟨(Nat.le_of_ble_eq_true rfl), (Nat.le_of_ble_eq_true rfl)⟩) hS (fun q h => h) (fun H locs hP hS => ?_)
  refine lv_istore_n (lv' := [(3, .int (nI (gm (mN M)))), (2, .int (nI (n / 16))), (0, .ref b), (1, .int (nI n))]) hx hb dL_act_13 rfl hl (by decide) rfl (fun ls hl => ?_)
  refine lv_iload_n hx hb dL_act_14 rfl (lv_at hl 1 rfl) ?_
  refine lv_iload_n hx hb dL_act_15 rfl (lv_at hl 0 rfl) ?_
  refine irem_n (a := n / 16) (b := gm (mN M)) hx hb ⟨hn16, hg0, hg31⟩ dL_act_16 ?_
  refine lv_istore (lv' := [(4, .int (nI ((n / 16) % (gm (mN M))))), (3, .int (nI (gm (mN M)))), (2, .int (nI (n / 16))), (0, .ref b), (1, .int (nI n))]) hx hb dL_act_17 hl (by decide) rfl (fun ls hl => ?_)
  refine lv_iload_n hx hb dL_act_19 rfl (lv_at hl 4 rfl) ?_
  refine lv_bipush (v := 16) hx hb dL_act_20 (by decide) ?_
  refine irem_n (a := n) (b := 16) hx hb ⟨hn, by decide, by decide⟩ dL_act_22 ?_
  rw [hi]
  refine lv_tableOut (tgt := 294) hx hb dL_act_23 (by decide) (by decide) ?_
  refine lv_aload_n hx hb dL_act_294 rfl (lv_at hl 3 rfl) ?_
  refine lv_bipush (v := 11) hx hb dL_act_295 (by decide) ?_
  refine lv_iconst (v := 1) hx hb dL_act_297 (by decide) ?_
  refine lv_iload_n hx hb dL_act_298 rfl (lv_at hl 2 rfl) ?_
  refine lv_bipush (v := 9) hx hb dL_act_299 (by decide) ?_
  refine irem_n (a := n / 16) (b := 9) hx hb ⟨hn16, by decide, by decide⟩ dL_act_301 ?_
  refine iadd_n (a := 1) (b := (n / 16) % 9) hx hb dL_act_302 ?_
  refine lv_iconst (v := 0) hx hb dL_act_303 (by decide) ?_
  refine lv_iconst (v := 0) hx hb dL_act_304 (by decide) ?_
  obtain ⟨u1, hu1⟩ : ∃ u : Nat, u = 1 + ((n / 16) % 9) := ⟨_, rfl⟩
  rw [← hu1]
  have hq1 := (aq_min (p := u1) (by omega) RX CX).1
  refine cl_o1 (rSP (A := blk b (b + 170)) (As := [.ref b, .int 11, .int (nI u1), .int 0, .int 0]) (rest := []) ⟨hx, hb, hml, hown, hts⟩ (c_call_11 l G b X (nI u1) 0 0 _ _ hst (RX).ho (RX).hk hq1) (va_cwS 5 hts gL_act_L_call rfl rfl rfl (by decide +kernel) ⟨(Nat.le_of_ble_eq_true rfl), (Nat.le_of_ble_eq_true rfl)⟩) hP hO (thr_at hTh hS (fun q h => h)) hN rfl hl.1 (Nat.le_of_ble_eq_true rfl) dL_act_305 ⟨(Nat.le_of_ble_eq_true rfl), (Nat.le_of_ble_eq_true rfl)⟩) hS (fun q h => h) (fun H locs hP hS => ?_)
  have hF : fact M n = ((h_X7_minutesOn (mN M) (nI u1)).1, (h_X7_minutes M (nI u1)).2) := by rw [fact_15 hi, hu1]
  exact W.widen (k := 2) (n := 12) (Nat.le_of_ble_eq_true rfl) (Nat.le_of_ble_eq_true rfl) (W.iret hx hb hr (fun t ht hW => ⟨(by rw [fin1 hF]), by rw [ht]; exact ⟨_, hP, fin2 hF ((aq_min (p := u1) (by omega) RX CX).2.1), ((aq_min (p := u1) (by omega) RX CX).2.2)⟩, hS.F ht⟩) hS.2.2 dL_act_308)
