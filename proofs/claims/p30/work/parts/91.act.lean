set_option maxHeartbeats 4000000 in
set_option maxRecDepth 100000 in
theorem c_L_act (l : Launch) (G : GG) (b : Nat) (X : Cx) (M : Mo) (n : Nat) (hst : l.stackTraces = false) (RX : RelX X M) (CX : Ch X) (hn : n < 2 ^ 31) : Met l yL_act wsL_act ({ frames := 12, cells := 2, slots := 12, locals := 210 }) (PcN G (blk b (b + 170)) [.ref b, .int (nI n)] (Cb G b X)) (QM (some (.int ((fact M n).1))) (fun H => ∃ X1, Cb G b X1 H ∧ RelX X1 (fact M n).2 ∧ Ch X1) (blk b (b + 170))) 2 12 (blk b (b + 170)) := by
  refine metN (cc := cL_act) (maxL := 5) (ret := (some .int)) (by decide) rfl ?_
  intro p e s m below meth cd hx hb hr hml hown hts hlocks hP hO hTh hN
  have hg2 : 2 ≤ gm (mN M) := by rw [← nm_gm RX]; exact CX.1
  have hg40 := RX.nw.2.ri.m.2
  have hg0 : 0 < gm (mN M) := Nat.lt_of_lt_of_le (by decide) hg2
  have hg31 : gm (mN M) < 2 ^ 31 := Nat.lt_of_le_of_lt hg40 (by decide)
  have hn16 : n / 16 < 2 ^ 31 := Nat.lt_of_le_of_lt (Nat.div_le_self _ _) hn
  have hnd : ∀ k, n / 16 / k < 2 ^ 31 := fun k => Nat.lt_of_le_of_lt (Nat.div_le_self _ _) hn16
  have hnm : ∀ k, n / 16 % k < 2 ^ 31 := fun k => Nat.lt_of_le_of_lt (Nat.mod_le _ _) hn16
  have hS : va_S (blk b (b + 170)) s.heap s.heap [] := va_S.rf
  have hl := lv_entry ([.ref b, .int (nI n)]) (n := 5) (Nat.le_of_ble_eq_true rfl)
  rw [lg_entry_eq]
  generalize (lg_sl ([.ref b, .int (nI n)]) ++ List.replicate (5 - (lg_sl ([.ref b, .int (nI n)])).length) Slot.unset).toArray = ls at hl ⊢
  have hl : lv_has ls 5 [(0, .ref b), (1, .int (nI n))] := hl
  refine lv_iload_n hx hb dL_act_0 rfl (lv_at hl 1 rfl) ?_
  refine lv_bipush (v := 16) hx hb dL_act_1 (by decide) ?_
  refine idiv_n (a := n) (b := 16) hx hb ⟨hn, by decide, by decide⟩ dL_act_3 ?_
  refine lv_istore_n (lv' := [(2, .int (nI (n / 16))), (0, .ref b), (1, .int (nI n))]) hx hb dL_act_4 rfl hl (by decide) rfl (fun ls hl => ?_)
  refine lv_aload_n hx hb dL_act_5 rfl (lv_at hl 1 rfl) ?_
  refine lv_iconst (v := 2) hx hb dL_act_6 (by decide) ?_
  refine lv_iconst (v := 0) hx hb dL_act_7 (by decide) ?_
  refine lv_iconst (v := 0) hx hb dL_act_8 (by decide) ?_
  refine lv_iconst (v := 0) hx hb dL_act_9 (by decide) ?_
  refine cl_o1 (rSP (A := blk b (b + 170)) (As := [.ref b, .int 2, .int 0, .int 0, .int 0]) (rest := []) ⟨hx, hb, hml, hown, hts⟩ (c_call_2 l G b X 0 0 0 (nI (gm (mN M))) X hst (rd_ab0 RX)) (va_cwS 5 hts gL_act_L_call rfl rfl rfl (by decide +kernel) ⟨(Nat.le_of_ble_eq_true rfl), (Nat.le_of_ble_eq_true rfl)⟩) hP hO (thr_at hTh hS (fun q h => h)) hN rfl hl.1 (Nat.le_of_ble_eq_true rfl) dL_act_10 ⟨(Nat.le_of_ble_eq_true rfl), (Nat.le_of_ble_eq_true rfl)⟩) hS (fun q h => h) (fun H locs hP hS => ?_)
  refine lv_istore_n (lv' := [(3, .int (nI (gm (mN M)))), (2, .int (nI (n / 16))), (0, .ref b), (1, .int (nI n))]) hx hb dL_act_13 rfl hl (by decide) rfl (fun ls hl => ?_)
  refine lv_iload_n hx hb dL_act_14 rfl (lv_at hl 1 rfl) ?_
  refine lv_iload_n hx hb dL_act_15 rfl (lv_at hl 0 rfl) ?_
  refine irem_n (a := n / 16) (b := gm (mN M)) hx hb ⟨hn16, hg0, hg31⟩ dL_act_16 ?_
  refine lv_istore (lv' := [(4, .int (nI ((n / 16) % (gm (mN M))))), (3, .int (nI (gm (mN M)))), (2, .int (nI (n / 16))), (0, .ref b), (1, .int (nI n))]) hx hb dL_act_17 hl (by decide) rfl (fun ls hl => ?_)
  refine lv_iload_n hx hb dL_act_19 rfl (lv_at hl 4 rfl) ?_
  refine lv_bipush (v := 16) hx hb dL_act_20 (by decide) ?_
  refine irem_n (a := n) (b := 16) hx hb ⟨hn, by decide, by decide⟩ dL_act_22 ?_
  rcases (show n % 16 = 0 ∨ n % 16 = 1 ∨ n % 16 = 2 ∨ n % 16 = 3 ∨ n % 16 = 4 ∨ n % 16 = 5 ∨ n % 16 = 6 ∨ n % 16 = 7 ∨ n % 16 = 8 ∨ n % 16 = 9 ∨ n % 16 = 10 ∨ n % 16 = 11 ∨ n % 16 = 12 ∨ n % 16 = 13 ∨ n % 16 = 14 ∨ n % 16 = 15 by omega) with hi | hi | hi | hi | hi | hi | hi | hi | hi | hi | hi | hi | hi | hi | hi | hi
  · refine lv_tableIn (off := 69) (tgt := 92) hx hb dL_act_23 (by rw [hi]; decide) (by rw [hi]; decide) (by rw [hi]; decide +kernel) (by decide) ?_
    refine lv_aload_n hx hb dL_act_92 rfl (lv_at hl 3 rfl) ?_
    refine lv_bipush (v := 7) hx hb dL_act_93 (by decide) ?_
    refine lv_iconst (v := 2) hx hb dL_act_95 (by decide) ?_
    refine lv_iload_n hx hb dL_act_96 rfl (lv_at hl 2 rfl) ?_
    refine lv_bipush (v := 7) hx hb dL_act_97 (by decide) ?_
    refine irem_n (a := n / 16) (b := 7) hx hb ⟨hn16, by decide, by decide⟩ dL_act_99 ?_
    refine iadd_n (a := 2) (b := (n / 16) % 7) hx hb dL_act_100 ?_
    refine lv_iconst (v := 1) hx hb dL_act_101 (by decide) ?_
    refine lv_iload_n hx hb dL_act_102 rfl (lv_at hl 2 rfl) ?_
    refine lv_bipush (v := 7) hx hb dL_act_103 (by decide) ?_
    refine idiv_n (a := n / 16) (b := 7) hx hb ⟨hn16, by decide, by decide⟩ dL_act_105 ?_
    refine lv_iload_n hx hb dL_act_106 rfl (lv_at hl 2 rfl) ?_
    refine lv_iconst (v := 3) hx hb dL_act_107 (by decide) ?_
    refine irem_n (a := n / 16) (b := 3) hx hb ⟨hn16, by decide, by decide⟩ dL_act_108 ?_
    refine lv_if_ne (tgt := 117) hx hb dL_act_109 (by decide) (fun c1 => ?_) (fun c1 => ?_)
    · have c1f : ¬ ((n / 16) % 3 : Nat) = 0 := fun z => c1 (congrArg nI z)
      refine lv_bipush (v := 20) hx hb dL_act_117 (by decide) ?_
      refine irem_n (a := (n / 16) / 7) (b := 20) hx hb ⟨hnd 7, by decide, by decide⟩ dL_act_119 ?_
      refine iadd_n (a := 1) (b := ((n / 16) / 7) % 20) hx hb dL_act_120 ?_
      refine lv_iconst (v := 0) hx hb dL_act_121 (by decide) ?_
      refine cl_o1 (rSP (A := blk b (b + 170)) (As := [.ref b, .int 7, .int (nI (2 + ((n / 16) % 7))), .int (nI (1 + (((n / 16) / 7) % 20))), .int 0]) (rest := []) ⟨hx, hb, hml, hown, hts⟩ (c_call_7 l G b X (nI (2 + ((n / 16) % 7))) (nI (1 + (((n / 16) / 7) % 20))) 0 (rvE (cd "java/lang/IllegalArgumentException") (cd "java/lang/IllegalStateException") (h_X7_come M (nI (2 + ((n / 16) % 7))) (nI (1 + (((n / 16) / 7) % 20))))) ((pv (h_X6_come X (nI (2 + ((n / 16) % 7))) (nI (1 + (((n / 16) / 7) % 20)))) X).2) hst (RX).ho (RX).hk (aq_come (nI (2 + ((n / 16) % 7))) (nI (1 + (((n / 16) / 7) % 20))) RX CX).1) (va_cwS 5 hts gL_act_L_call rfl rfl rfl (by decide +kernel) ⟨(Nat.le_of_ble_eq_true rfl), (Nat.le_of_ble_eq_true rfl)⟩) hP hO (thr_at hTh hS (fun q h => h)) hN rfl hl.1 (Nat.le_of_ble_eq_true rfl) dL_act_122 ⟨(Nat.le_of_ble_eq_true rfl), (Nat.le_of_ble_eq_true rfl)⟩) hS (fun q h => h) (fun H locs hP hS => ?_)
      exact W.widen (k := 2) (n := 12) (Nat.le_of_ble_eq_true rfl) (Nat.le_of_ble_eq_true rfl) (W.iret hx hb hr (fun t ht hW => ⟨(by rw [fact_0 hi, if_neg c1f]), by rw [ht]; exact ⟨_, hP, by rw [fact_0 hi, if_neg c1f]; exact ((aq_come (nI (2 + ((n / 16) % 7))) (nI (1 + (((n / 16) / 7) % 20))) RX CX).2.1), ((aq_come (nI (2 + ((n / 16) % 7))) (nI (1 + (((n / 16) / 7) % 20))) RX CX).2.2)⟩, hS.F ht⟩) hS.2.2 dL_act_125)
    · have c1f : ((n / 16) % 3 : Nat) = 0 := nI_inj (a := (n / 16) % 3) (b := 0) (by omega) (by omega) c1
      refine lv_bipush (v := 99) hx hb dL_act_112 (by decide) ?_
      refine lv_goto (tgt := 119) hx hb dL_act_114 (by decide) ?_
      refine irem_n (a := (n / 16) / 7) (b := 99) hx hb ⟨hnd 7, by decide, by decide⟩ dL_act_119 ?_
      refine iadd_n (a := 1) (b := ((n / 16) / 7) % 99) hx hb dL_act_120 ?_
      refine lv_iconst (v := 0) hx hb dL_act_121 (by decide) ?_
      refine cl_o1 (rSP (A := blk b (b + 170)) (As := [.ref b, .int 7, .int (nI (2 + ((n / 16) % 7))), .int (nI (1 + (((n / 16) / 7) % 99))), .int 0]) (rest := []) ⟨hx, hb, hml, hown, hts⟩ (c_call_7 l G b X (nI (2 + ((n / 16) % 7))) (nI (1 + (((n / 16) / 7) % 99))) 0 (rvE (cd "java/lang/IllegalArgumentException") (cd "java/lang/IllegalStateException") (h_X7_come M (nI (2 + ((n / 16) % 7))) (nI (1 + (((n / 16) / 7) % 99))))) ((pv (h_X6_come X (nI (2 + ((n / 16) % 7))) (nI (1 + (((n / 16) / 7) % 99)))) X).2) hst (RX).ho (RX).hk (aq_come (nI (2 + ((n / 16) % 7))) (nI (1 + (((n / 16) / 7) % 99))) RX CX).1) (va_cwS 5 hts gL_act_L_call rfl rfl rfl (by decide +kernel) ⟨(Nat.le_of_ble_eq_true rfl), (Nat.le_of_ble_eq_true rfl)⟩) hP hO (thr_at hTh hS (fun q h => h)) hN rfl hl.1 (Nat.le_of_ble_eq_true rfl) dL_act_122 ⟨(Nat.le_of_ble_eq_true rfl), (Nat.le_of_ble_eq_true rfl)⟩) hS (fun q h => h) (fun H locs hP hS => ?_)
      exact W.widen (k := 2) (n := 12) (Nat.le_of_ble_eq_true rfl) (Nat.le_of_ble_eq_true rfl) (W.iret hx hb hr (fun t ht hW => ⟨(by rw [fact_0 hi, if_pos c1f]), by rw [ht]; exact ⟨_, hP, by rw [fact_0 hi, if_pos c1f]; exact ((aq_come (nI (2 + ((n / 16) % 7))) (nI (1 + (((n / 16) / 7) % 99))) RX CX).2.1), ((aq_come (nI (2 + ((n / 16) % 7))) (nI (1 + (((n / 16) / 7) % 99))) RX CX).2.2)⟩, hS.F ht⟩) hS.2.2 dL_act_125)
  · refine lv_tableIn (off := 69) (tgt := 92) hx hb dL_act_23 (by rw [hi]; decide) (by rw [hi]; decide) (by rw [hi]; decide +kernel) (by decide) ?_
    refine lv_aload_n hx hb dL_act_92 rfl (lv_at hl 3 rfl) ?_
    refine lv_bipush (v := 7) hx hb dL_act_93 (by decide) ?_
    refine lv_iconst (v := 2) hx hb dL_act_95 (by decide) ?_
    refine lv_iload_n hx hb dL_act_96 rfl (lv_at hl 2 rfl) ?_
    refine lv_bipush (v := 7) hx hb dL_act_97 (by decide) ?_
    refine irem_n (a := n / 16) (b := 7) hx hb ⟨hn16, by decide, by decide⟩ dL_act_99 ?_
    refine iadd_n (a := 2) (b := (n / 16) % 7) hx hb dL_act_100 ?_
    refine lv_iconst (v := 1) hx hb dL_act_101 (by decide) ?_
    refine lv_iload_n hx hb dL_act_102 rfl (lv_at hl 2 rfl) ?_
    refine lv_bipush (v := 7) hx hb dL_act_103 (by decide) ?_
    refine idiv_n (a := n / 16) (b := 7) hx hb ⟨hn16, by decide, by decide⟩ dL_act_105 ?_
    refine lv_iload_n hx hb dL_act_106 rfl (lv_at hl 2 rfl) ?_
    refine lv_iconst (v := 3) hx hb dL_act_107 (by decide) ?_
    refine irem_n (a := n / 16) (b := 3) hx hb ⟨hn16, by decide, by decide⟩ dL_act_108 ?_
    refine lv_if_ne (tgt := 117) hx hb dL_act_109 (by decide) (fun c2 => ?_) (fun c2 => ?_)
    · have c2f : ¬ ((n / 16) % 3 : Nat) = 0 := fun z => c2 (congrArg nI z)
      refine lv_bipush (v := 20) hx hb dL_act_117 (by decide) ?_
      refine irem_n (a := (n / 16) / 7) (b := 20) hx hb ⟨hnd 7, by decide, by decide⟩ dL_act_119 ?_
      refine iadd_n (a := 1) (b := ((n / 16) / 7) % 20) hx hb dL_act_120 ?_
      refine lv_iconst (v := 0) hx hb dL_act_121 (by decide) ?_
      refine cl_o1 (rSP (A := blk b (b + 170)) (As := [.ref b, .int 7, .int (nI (2 + ((n / 16) % 7))), .int (nI (1 + (((n / 16) / 7) % 20))), .int 0]) (rest := []) ⟨hx, hb, hml, hown, hts⟩ (c_call_7 l G b X (nI (2 + ((n / 16) % 7))) (nI (1 + (((n / 16) / 7) % 20))) 0 (rvE (cd "java/lang/IllegalArgumentException") (cd "java/lang/IllegalStateException") (h_X7_come M (nI (2 + ((n / 16) % 7))) (nI (1 + (((n / 16) / 7) % 20))))) ((pv (h_X6_come X (nI (2 + ((n / 16) % 7))) (nI (1 + (((n / 16) / 7) % 20)))) X).2) hst (RX).ho (RX).hk (aq_come (nI (2 + ((n / 16) % 7))) (nI (1 + (((n / 16) / 7) % 20))) RX CX).1) (va_cwS 5 hts gL_act_L_call rfl rfl rfl (by decide +kernel) ⟨(Nat.le_of_ble_eq_true rfl), (Nat.le_of_ble_eq_true rfl)⟩) hP hO (thr_at hTh hS (fun q h => h)) hN rfl hl.1 (Nat.le_of_ble_eq_true rfl) dL_act_122 ⟨(Nat.le_of_ble_eq_true rfl), (Nat.le_of_ble_eq_true rfl)⟩) hS (fun q h => h) (fun H locs hP hS => ?_)
      exact W.widen (k := 2) (n := 12) (Nat.le_of_ble_eq_true rfl) (Nat.le_of_ble_eq_true rfl) (W.iret hx hb hr (fun t ht hW => ⟨(by rw [fact_1 hi, if_neg c2f]), by rw [ht]; exact ⟨_, hP, by rw [fact_1 hi, if_neg c2f]; exact ((aq_come (nI (2 + ((n / 16) % 7))) (nI (1 + (((n / 16) / 7) % 20))) RX CX).2.1), ((aq_come (nI (2 + ((n / 16) % 7))) (nI (1 + (((n / 16) / 7) % 20))) RX CX).2.2)⟩, hS.F ht⟩) hS.2.2 dL_act_125)
    · have c2f : ((n / 16) % 3 : Nat) = 0 := nI_inj (a := (n / 16) % 3) (b := 0) (by omega) (by omega) c2
      refine lv_bipush (v := 99) hx hb dL_act_112 (by decide) ?_
      refine lv_goto (tgt := 119) hx hb dL_act_114 (by decide) ?_
      refine irem_n (a := (n / 16) / 7) (b := 99) hx hb ⟨hnd 7, by decide, by decide⟩ dL_act_119 ?_
      refine iadd_n (a := 1) (b := ((n / 16) / 7) % 99) hx hb dL_act_120 ?_
      refine lv_iconst (v := 0) hx hb dL_act_121 (by decide) ?_
      refine cl_o1 (rSP (A := blk b (b + 170)) (As := [.ref b, .int 7, .int (nI (2 + ((n / 16) % 7))), .int (nI (1 + (((n / 16) / 7) % 99))), .int 0]) (rest := []) ⟨hx, hb, hml, hown, hts⟩ (c_call_7 l G b X (nI (2 + ((n / 16) % 7))) (nI (1 + (((n / 16) / 7) % 99))) 0 (rvE (cd "java/lang/IllegalArgumentException") (cd "java/lang/IllegalStateException") (h_X7_come M (nI (2 + ((n / 16) % 7))) (nI (1 + (((n / 16) / 7) % 99))))) ((pv (h_X6_come X (nI (2 + ((n / 16) % 7))) (nI (1 + (((n / 16) / 7) % 99)))) X).2) hst (RX).ho (RX).hk (aq_come (nI (2 + ((n / 16) % 7))) (nI (1 + (((n / 16) / 7) % 99))) RX CX).1) (va_cwS 5 hts gL_act_L_call rfl rfl rfl (by decide +kernel) ⟨(Nat.le_of_ble_eq_true rfl), (Nat.le_of_ble_eq_true rfl)⟩) hP hO (thr_at hTh hS (fun q h => h)) hN rfl hl.1 (Nat.le_of_ble_eq_true rfl) dL_act_122 ⟨(Nat.le_of_ble_eq_true rfl), (Nat.le_of_ble_eq_true rfl)⟩) hS (fun q h => h) (fun H locs hP hS => ?_)
      exact W.widen (k := 2) (n := 12) (Nat.le_of_ble_eq_true rfl) (Nat.le_of_ble_eq_true rfl) (W.iret hx hb hr (fun t ht hW => ⟨(by rw [fact_1 hi, if_pos c2f]), by rw [ht]; exact ⟨_, hP, by rw [fact_1 hi, if_pos c2f]; exact ((aq_come (nI (2 + ((n / 16) % 7))) (nI (1 + (((n / 16) / 7) % 99))) RX CX).2.1), ((aq_come (nI (2 + ((n / 16) % 7))) (nI (1 + (((n / 16) / 7) % 99))) RX CX).2.2)⟩, hS.F ht⟩) hS.2.2 dL_act_125)
  · refine lv_tableIn (off := 69) (tgt := 92) hx hb dL_act_23 (by rw [hi]; decide) (by rw [hi]; decide) (by rw [hi]; decide +kernel) (by decide) ?_
    refine lv_aload_n hx hb dL_act_92 rfl (lv_at hl 3 rfl) ?_
    refine lv_bipush (v := 7) hx hb dL_act_93 (by decide) ?_
    refine lv_iconst (v := 2) hx hb dL_act_95 (by decide) ?_
    refine lv_iload_n hx hb dL_act_96 rfl (lv_at hl 2 rfl) ?_
    refine lv_bipush (v := 7) hx hb dL_act_97 (by decide) ?_
    refine irem_n (a := n / 16) (b := 7) hx hb ⟨hn16, by decide, by decide⟩ dL_act_99 ?_
    refine iadd_n (a := 2) (b := (n / 16) % 7) hx hb dL_act_100 ?_
    refine lv_iconst (v := 1) hx hb dL_act_101 (by decide) ?_
    refine lv_iload_n hx hb dL_act_102 rfl (lv_at hl 2 rfl) ?_
    refine lv_bipush (v := 7) hx hb dL_act_103 (by decide) ?_
    refine idiv_n (a := n / 16) (b := 7) hx hb ⟨hn16, by decide, by decide⟩ dL_act_105 ?_
    refine lv_iload_n hx hb dL_act_106 rfl (lv_at hl 2 rfl) ?_
    refine lv_iconst (v := 3) hx hb dL_act_107 (by decide) ?_
    refine irem_n (a := n / 16) (b := 3) hx hb ⟨hn16, by decide, by decide⟩ dL_act_108 ?_
    refine lv_if_ne (tgt := 117) hx hb dL_act_109 (by decide) (fun c3 => ?_) (fun c3 => ?_)
    · have c3f : ¬ ((n / 16) % 3 : Nat) = 0 := fun z => c3 (congrArg nI z)
      refine lv_bipush (v := 20) hx hb dL_act_117 (by decide) ?_
      refine irem_n (a := (n / 16) / 7) (b := 20) hx hb ⟨hnd 7, by decide, by decide⟩ dL_act_119 ?_
      refine iadd_n (a := 1) (b := ((n / 16) / 7) % 20) hx hb dL_act_120 ?_
      refine lv_iconst (v := 0) hx hb dL_act_121 (by decide) ?_
      refine cl_o1 (rSP (A := blk b (b + 170)) (As := [.ref b, .int 7, .int (nI (2 + ((n / 16) % 7))), .int (nI (1 + (((n / 16) / 7) % 20))), .int 0]) (rest := []) ⟨hx, hb, hml, hown, hts⟩ (c_call_7 l G b X (nI (2 + ((n / 16) % 7))) (nI (1 + (((n / 16) / 7) % 20))) 0 (rvE (cd "java/lang/IllegalArgumentException") (cd "java/lang/IllegalStateException") (h_X7_come M (nI (2 + ((n / 16) % 7))) (nI (1 + (((n / 16) / 7) % 20))))) ((pv (h_X6_come X (nI (2 + ((n / 16) % 7))) (nI (1 + (((n / 16) / 7) % 20)))) X).2) hst (RX).ho (RX).hk (aq_come (nI (2 + ((n / 16) % 7))) (nI (1 + (((n / 16) / 7) % 20))) RX CX).1) (va_cwS 5 hts gL_act_L_call rfl rfl rfl (by decide +kernel) ⟨(Nat.le_of_ble_eq_true rfl), (Nat.le_of_ble_eq_true rfl)⟩) hP hO (thr_at hTh hS (fun q h => h)) hN rfl hl.1 (Nat.le_of_ble_eq_true rfl) dL_act_122 ⟨(Nat.le_of_ble_eq_true rfl), (Nat.le_of_ble_eq_true rfl)⟩) hS (fun q h => h) (fun H locs hP hS => ?_)
      exact W.widen (k := 2) (n := 12) (Nat.le_of_ble_eq_true rfl) (Nat.le_of_ble_eq_true rfl) (W.iret hx hb hr (fun t ht hW => ⟨(by rw [fact_2 hi, if_neg c3f]), by rw [ht]; exact ⟨_, hP, by rw [fact_2 hi, if_neg c3f]; exact ((aq_come (nI (2 + ((n / 16) % 7))) (nI (1 + (((n / 16) / 7) % 20))) RX CX).2.1), ((aq_come (nI (2 + ((n / 16) % 7))) (nI (1 + (((n / 16) / 7) % 20))) RX CX).2.2)⟩, hS.F ht⟩) hS.2.2 dL_act_125)
    · have c3f : ((n / 16) % 3 : Nat) = 0 := nI_inj (a := (n / 16) % 3) (b := 0) (by omega) (by omega) c3
      refine lv_bipush (v := 99) hx hb dL_act_112 (by decide) ?_
      refine lv_goto (tgt := 119) hx hb dL_act_114 (by decide) ?_
      refine irem_n (a := (n / 16) / 7) (b := 99) hx hb ⟨hnd 7, by decide, by decide⟩ dL_act_119 ?_
      refine iadd_n (a := 1) (b := ((n / 16) / 7) % 99) hx hb dL_act_120 ?_
      refine lv_iconst (v := 0) hx hb dL_act_121 (by decide) ?_
      refine cl_o1 (rSP (A := blk b (b + 170)) (As := [.ref b, .int 7, .int (nI (2 + ((n / 16) % 7))), .int (nI (1 + (((n / 16) / 7) % 99))), .int 0]) (rest := []) ⟨hx, hb, hml, hown, hts⟩ (c_call_7 l G b X (nI (2 + ((n / 16) % 7))) (nI (1 + (((n / 16) / 7) % 99))) 0 (rvE (cd "java/lang/IllegalArgumentException") (cd "java/lang/IllegalStateException") (h_X7_come M (nI (2 + ((n / 16) % 7))) (nI (1 + (((n / 16) / 7) % 99))))) ((pv (h_X6_come X (nI (2 + ((n / 16) % 7))) (nI (1 + (((n / 16) / 7) % 99)))) X).2) hst (RX).ho (RX).hk (aq_come (nI (2 + ((n / 16) % 7))) (nI (1 + (((n / 16) / 7) % 99))) RX CX).1) (va_cwS 5 hts gL_act_L_call rfl rfl rfl (by decide +kernel) ⟨(Nat.le_of_ble_eq_true rfl), (Nat.le_of_ble_eq_true rfl)⟩) hP hO (thr_at hTh hS (fun q h => h)) hN rfl hl.1 (Nat.le_of_ble_eq_true rfl) dL_act_122 ⟨(Nat.le_of_ble_eq_true rfl), (Nat.le_of_ble_eq_true rfl)⟩) hS (fun q h => h) (fun H locs hP hS => ?_)
      exact W.widen (k := 2) (n := 12) (Nat.le_of_ble_eq_true rfl) (Nat.le_of_ble_eq_true rfl) (W.iret hx hb hr (fun t ht hW => ⟨(by rw [fact_2 hi, if_pos c3f]), by rw [ht]; exact ⟨_, hP, by rw [fact_2 hi, if_pos c3f]; exact ((aq_come (nI (2 + ((n / 16) % 7))) (nI (1 + (((n / 16) / 7) % 99))) RX CX).2.1), ((aq_come (nI (2 + ((n / 16) % 7))) (nI (1 + (((n / 16) / 7) % 99))) RX CX).2.2)⟩, hS.F ht⟩) hS.2.2 dL_act_125)
  · refine lv_tableIn (off := 69) (tgt := 92) hx hb dL_act_23 (by rw [hi]; decide) (by rw [hi]; decide) (by rw [hi]; decide +kernel) (by decide) ?_
    refine lv_aload_n hx hb dL_act_92 rfl (lv_at hl 3 rfl) ?_
    refine lv_bipush (v := 7) hx hb dL_act_93 (by decide) ?_
    refine lv_iconst (v := 2) hx hb dL_act_95 (by decide) ?_
    refine lv_iload_n hx hb dL_act_96 rfl (lv_at hl 2 rfl) ?_
    refine lv_bipush (v := 7) hx hb dL_act_97 (by decide) ?_
    refine irem_n (a := n / 16) (b := 7) hx hb ⟨hn16, by decide, by decide⟩ dL_act_99 ?_
    refine iadd_n (a := 2) (b := (n / 16) % 7) hx hb dL_act_100 ?_
    refine lv_iconst (v := 1) hx hb dL_act_101 (by decide) ?_
    refine lv_iload_n hx hb dL_act_102 rfl (lv_at hl 2 rfl) ?_
    refine lv_bipush (v := 7) hx hb dL_act_103 (by decide) ?_
    refine idiv_n (a := n / 16) (b := 7) hx hb ⟨hn16, by decide, by decide⟩ dL_act_105 ?_
    refine lv_iload_n hx hb dL_act_106 rfl (lv_at hl 2 rfl) ?_
    refine lv_iconst (v := 3) hx hb dL_act_107 (by decide) ?_
    refine irem_n (a := n / 16) (b := 3) hx hb ⟨hn16, by decide, by decide⟩ dL_act_108 ?_
    refine lv_if_ne (tgt := 117) hx hb dL_act_109 (by decide) (fun c4 => ?_) (fun c4 => ?_)
    · have c4f : ¬ ((n / 16) % 3 : Nat) = 0 := fun z => c4 (congrArg nI z)
      refine lv_bipush (v := 20) hx hb dL_act_117 (by decide) ?_
      refine irem_n (a := (n / 16) / 7) (b := 20) hx hb ⟨hnd 7, by decide, by decide⟩ dL_act_119 ?_
      refine iadd_n (a := 1) (b := ((n / 16) / 7) % 20) hx hb dL_act_120 ?_
      refine lv_iconst (v := 0) hx hb dL_act_121 (by decide) ?_
      refine cl_o1 (rSP (A := blk b (b + 170)) (As := [.ref b, .int 7, .int (nI (2 + ((n / 16) % 7))), .int (nI (1 + (((n / 16) / 7) % 20))), .int 0]) (rest := []) ⟨hx, hb, hml, hown, hts⟩ (c_call_7 l G b X (nI (2 + ((n / 16) % 7))) (nI (1 + (((n / 16) / 7) % 20))) 0 (rvE (cd "java/lang/IllegalArgumentException") (cd "java/lang/IllegalStateException") (h_X7_come M (nI (2 + ((n / 16) % 7))) (nI (1 + (((n / 16) / 7) % 20))))) ((pv (h_X6_come X (nI (2 + ((n / 16) % 7))) (nI (1 + (((n / 16) / 7) % 20)))) X).2) hst (RX).ho (RX).hk (aq_come (nI (2 + ((n / 16) % 7))) (nI (1 + (((n / 16) / 7) % 20))) RX CX).1) (va_cwS 5 hts gL_act_L_call rfl rfl rfl (by decide +kernel) ⟨(Nat.le_of_ble_eq_true rfl), (Nat.le_of_ble_eq_true rfl)⟩) hP hO (thr_at hTh hS (fun q h => h)) hN rfl hl.1 (Nat.le_of_ble_eq_true rfl) dL_act_122 ⟨(Nat.le_of_ble_eq_true rfl), (Nat.le_of_ble_eq_true rfl)⟩) hS (fun q h => h) (fun H locs hP hS => ?_)
      exact W.widen (k := 2) (n := 12) (Nat.le_of_ble_eq_true rfl) (Nat.le_of_ble_eq_true rfl) (W.iret hx hb hr (fun t ht hW => ⟨(by rw [fact_3 hi, if_neg c4f]), by rw [ht]; exact ⟨_, hP, by rw [fact_3 hi, if_neg c4f]; exact ((aq_come (nI (2 + ((n / 16) % 7))) (nI (1 + (((n / 16) / 7) % 20))) RX CX).2.1), ((aq_come (nI (2 + ((n / 16) % 7))) (nI (1 + (((n / 16) / 7) % 20))) RX CX).2.2)⟩, hS.F ht⟩) hS.2.2 dL_act_125)
    · have c4f : ((n / 16) % 3 : Nat) = 0 := nI_inj (a := (n / 16) % 3) (b := 0) (by omega) (by omega) c4
      refine lv_bipush (v := 99) hx hb dL_act_112 (by decide) ?_
      refine lv_goto (tgt := 119) hx hb dL_act_114 (by decide) ?_
      refine irem_n (a := (n / 16) / 7) (b := 99) hx hb ⟨hnd 7, by decide, by decide⟩ dL_act_119 ?_
      refine iadd_n (a := 1) (b := ((n / 16) / 7) % 99) hx hb dL_act_120 ?_
      refine lv_iconst (v := 0) hx hb dL_act_121 (by decide) ?_
      refine cl_o1 (rSP (A := blk b (b + 170)) (As := [.ref b, .int 7, .int (nI (2 + ((n / 16) % 7))), .int (nI (1 + (((n / 16) / 7) % 99))), .int 0]) (rest := []) ⟨hx, hb, hml, hown, hts⟩ (c_call_7 l G b X (nI (2 + ((n / 16) % 7))) (nI (1 + (((n / 16) / 7) % 99))) 0 (rvE (cd "java/lang/IllegalArgumentException") (cd "java/lang/IllegalStateException") (h_X7_come M (nI (2 + ((n / 16) % 7))) (nI (1 + (((n / 16) / 7) % 99))))) ((pv (h_X6_come X (nI (2 + ((n / 16) % 7))) (nI (1 + (((n / 16) / 7) % 99)))) X).2) hst (RX).ho (RX).hk (aq_come (nI (2 + ((n / 16) % 7))) (nI (1 + (((n / 16) / 7) % 99))) RX CX).1) (va_cwS 5 hts gL_act_L_call rfl rfl rfl (by decide +kernel) ⟨(Nat.le_of_ble_eq_true rfl), (Nat.le_of_ble_eq_true rfl)⟩) hP hO (thr_at hTh hS (fun q h => h)) hN rfl hl.1 (Nat.le_of_ble_eq_true rfl) dL_act_122 ⟨(Nat.le_of_ble_eq_true rfl), (Nat.le_of_ble_eq_true rfl)⟩) hS (fun q h => h) (fun H locs hP hS => ?_)
      exact W.widen (k := 2) (n := 12) (Nat.le_of_ble_eq_true rfl) (Nat.le_of_ble_eq_true rfl) (W.iret hx hb hr (fun t ht hW => ⟨(by rw [fact_3 hi, if_pos c4f]), by rw [ht]; exact ⟨_, hP, by rw [fact_3 hi, if_pos c4f]; exact ((aq_come (nI (2 + ((n / 16) % 7))) (nI (1 + (((n / 16) / 7) % 99))) RX CX).2.1), ((aq_come (nI (2 + ((n / 16) % 7))) (nI (1 + (((n / 16) / 7) % 99))) RX CX).2.2)⟩, hS.F ht⟩) hS.2.2 dL_act_125)
  · refine lv_tableIn (off := 103) (tgt := 126) hx hb dL_act_23 (by rw [hi]; decide) (by rw [hi]; decide) (by rw [hi]; decide +kernel) (by decide) ?_
    refine lv_aload_n hx hb dL_act_126 rfl (lv_at hl 3 rfl) ?_
    refine lv_iload_n hx hb dL_act_127 rfl (lv_at hl 2 rfl) ?_
    refine lv_bipush (v := 80) hx hb dL_act_128 (by decide) ?_
    refine irem_n (a := n / 16) (b := 80) hx hb ⟨hn16, by decide, by decide⟩ dL_act_130 ?_
    refine lv_iload_n hx hb dL_act_131 rfl (lv_at hl 2 rfl) ?_
    refine lv_bipush (v := 80) hx hb dL_act_132 (by decide) ?_
    refine idiv_n (a := n / 16) (b := 80) hx hb ⟨hn16, by decide, by decide⟩ dL_act_134 ?_
    refine lv_iconst (v := 3) hx hb dL_act_135 (by decide) ?_
    refine irem_n (a := (n / 16) / 80) (b := 3) hx hb ⟨hnd 80, by decide, by decide⟩ dL_act_136 ?_
    refine lv_if_le (tgt := 144) hx hb dL_act_137 (by decide) (fun c5 => ?_) (fun c5 => ?_)
    · have c5f : ((n / 16) / 80) % 3 ≤ 0 := (nI_leI (a := ((n / 16) / 80) % 3) (b := 0) (by omega) (by omega)).mp c5
      refine lv_iconst (v := 0) hx hb dL_act_144 (by decide) ?_
      refine cl_w1 (xSW (A := blk b (b + 170)) (As := [.ref b, .int (nI ((n / 16) % 80)), .int 0]) (rest := []) ⟨hx, hb, hml, hown, hts⟩ (w_L_hydrants l G b X (nI ((n / 16) % 80)) 0 (rvE (cd "java/lang/IndexOutOfBoundsException") (cd "java/lang/IllegalStateException") (h_X7_hydrant M (nI ((n / 16) % 80)) 0)) ((pv (h_X6_hydrant X (nI ((n / 16) % 80)) 0) X).2) hst (RX).ho (RX).hk (aq_hydrant (nI ((n / 16) % 80)) 0 RX CX).1) (vx_cwSW 3 hts gL_act_L_hydrants rfl rfl rfl (by decide +kernel) ⟨(Nat.le_of_ble_eq_true rfl), (Nat.le_of_ble_eq_true rfl)⟩) hP hO (thr_at hTh hS (fun q h => h)) hN rfl hl.1 (Nat.le_of_ble_eq_true rfl) dL_act_145 ⟨(Nat.le_of_ble_eq_true rfl), (Nat.le_of_ble_eq_true rfl)⟩) hS (fun q h => h) (fun H locs hP hS => ?_)
      exact W.widen (k := 2) (n := 12) (Nat.le_of_ble_eq_true rfl) (Nat.le_of_ble_eq_true rfl) (W.iret hx hb hr (fun t ht hW => ⟨(by rw [fact_4 hi, if_neg (Nat.not_lt.mpr c5f)]), by rw [ht]; exact ⟨_, hP, by rw [fact_4 hi, if_neg (Nat.not_lt.mpr c5f)]; exact ((aq_hydrant (nI ((n / 16) % 80)) 0 RX CX).2.1), ((aq_hydrant (nI ((n / 16) % 80)) 0 RX CX).2.2)⟩, hS.F ht⟩) hS.2.2 dL_act_148)
    · have c5f : ¬ (((n / 16) / 80) % 3) ≤ 0 := fun z => c5 ((nI_leI (a := ((n / 16) / 80) % 3) (b := 0) (by omega) (by omega)).mpr z)
      refine lv_iconst (v := 1) hx hb dL_act_140 (by decide) ?_
      refine lv_goto (tgt := 145) hx hb dL_act_141 (by decide) ?_
      refine cl_w1 (xSW (A := blk b (b + 170)) (As := [.ref b, .int (nI ((n / 16) % 80)), .int 1]) (rest := []) ⟨hx, hb, hml, hown, hts⟩ (w_L_hydrants l G b X (nI ((n / 16) % 80)) 1 (rvE (cd "java/lang/IndexOutOfBoundsException") (cd "java/lang/IllegalStateException") (h_X7_hydrant M (nI ((n / 16) % 80)) 1)) ((pv (h_X6_hydrant X (nI ((n / 16) % 80)) 1) X).2) hst (RX).ho (RX).hk (aq_hydrant (nI ((n / 16) % 80)) 1 RX CX).1) (vx_cwSW 3 hts gL_act_L_hydrants rfl rfl rfl (by decide +kernel) ⟨(Nat.le_of_ble_eq_true rfl), (Nat.le_of_ble_eq_true rfl)⟩) hP hO (thr_at hTh hS (fun q h => h)) hN rfl hl.1 (Nat.le_of_ble_eq_true rfl) dL_act_145 ⟨(Nat.le_of_ble_eq_true rfl), (Nat.le_of_ble_eq_true rfl)⟩) hS (fun q h => h) (fun H locs hP hS => ?_)
      exact W.widen (k := 2) (n := 12) (Nat.le_of_ble_eq_true rfl) (Nat.le_of_ble_eq_true rfl) (W.iret hx hb hr (fun t ht hW => ⟨(by rw [fact_4 hi, if_pos (Nat.lt_of_not_le c5f)]), by rw [ht]; exact ⟨_, hP, by rw [fact_4 hi, if_pos (Nat.lt_of_not_le c5f)]; exact ((aq_hydrant (nI ((n / 16) % 80)) 1 RX CX).2.1), ((aq_hydrant (nI ((n / 16) % 80)) 1 RX CX).2.2)⟩, hS.F ht⟩) hS.2.2 dL_act_148)
  · refine lv_tableIn (off := 103) (tgt := 126) hx hb dL_act_23 (by rw [hi]; decide) (by rw [hi]; decide) (by rw [hi]; decide +kernel) (by decide) ?_
    refine lv_aload_n hx hb dL_act_126 rfl (lv_at hl 3 rfl) ?_
    refine lv_iload_n hx hb dL_act_127 rfl (lv_at hl 2 rfl) ?_
    refine lv_bipush (v := 80) hx hb dL_act_128 (by decide) ?_
    refine irem_n (a := n / 16) (b := 80) hx hb ⟨hn16, by decide, by decide⟩ dL_act_130 ?_
    refine lv_iload_n hx hb dL_act_131 rfl (lv_at hl 2 rfl) ?_
    refine lv_bipush (v := 80) hx hb dL_act_132 (by decide) ?_
    refine idiv_n (a := n / 16) (b := 80) hx hb ⟨hn16, by decide, by decide⟩ dL_act_134 ?_
    refine lv_iconst (v := 3) hx hb dL_act_135 (by decide) ?_
    refine irem_n (a := (n / 16) / 80) (b := 3) hx hb ⟨hnd 80, by decide, by decide⟩ dL_act_136 ?_
    refine lv_if_le (tgt := 144) hx hb dL_act_137 (by decide) (fun c6 => ?_) (fun c6 => ?_)
    · have c6f : ((n / 16) / 80) % 3 ≤ 0 := (nI_leI (a := ((n / 16) / 80) % 3) (b := 0) (by omega) (by omega)).mp c6
      refine lv_iconst (v := 0) hx hb dL_act_144 (by decide) ?_
      refine cl_w1 (xSW (A := blk b (b + 170)) (As := [.ref b, .int (nI ((n / 16) % 80)), .int 0]) (rest := []) ⟨hx, hb, hml, hown, hts⟩ (w_L_hydrants l G b X (nI ((n / 16) % 80)) 0 (rvE (cd "java/lang/IndexOutOfBoundsException") (cd "java/lang/IllegalStateException") (h_X7_hydrant M (nI ((n / 16) % 80)) 0)) ((pv (h_X6_hydrant X (nI ((n / 16) % 80)) 0) X).2) hst (RX).ho (RX).hk (aq_hydrant (nI ((n / 16) % 80)) 0 RX CX).1) (vx_cwSW 3 hts gL_act_L_hydrants rfl rfl rfl (by decide +kernel) ⟨(Nat.le_of_ble_eq_true rfl), (Nat.le_of_ble_eq_true rfl)⟩) hP hO (thr_at hTh hS (fun q h => h)) hN rfl hl.1 (Nat.le_of_ble_eq_true rfl) dL_act_145 ⟨(Nat.le_of_ble_eq_true rfl), (Nat.le_of_ble_eq_true rfl)⟩) hS (fun q h => h) (fun H locs hP hS => ?_)
      exact W.widen (k := 2) (n := 12) (Nat.le_of_ble_eq_true rfl) (Nat.le_of_ble_eq_true rfl) (W.iret hx hb hr (fun t ht hW => ⟨(by rw [fact_5 hi, if_neg (Nat.not_lt.mpr c6f)]), by rw [ht]; exact ⟨_, hP, by rw [fact_5 hi, if_neg (Nat.not_lt.mpr c6f)]; exact ((aq_hydrant (nI ((n / 16) % 80)) 0 RX CX).2.1), ((aq_hydrant (nI ((n / 16) % 80)) 0 RX CX).2.2)⟩, hS.F ht⟩) hS.2.2 dL_act_148)
    · have c6f : ¬ (((n / 16) / 80) % 3) ≤ 0 := fun z => c6 ((nI_leI (a := ((n / 16) / 80) % 3) (b := 0) (by omega) (by omega)).mpr z)
      refine lv_iconst (v := 1) hx hb dL_act_140 (by decide) ?_
      refine lv_goto (tgt := 145) hx hb dL_act_141 (by decide) ?_
      refine cl_w1 (xSW (A := blk b (b + 170)) (As := [.ref b, .int (nI ((n / 16) % 80)), .int 1]) (rest := []) ⟨hx, hb, hml, hown, hts⟩ (w_L_hydrants l G b X (nI ((n / 16) % 80)) 1 (rvE (cd "java/lang/IndexOutOfBoundsException") (cd "java/lang/IllegalStateException") (h_X7_hydrant M (nI ((n / 16) % 80)) 1)) ((pv (h_X6_hydrant X (nI ((n / 16) % 80)) 1) X).2) hst (RX).ho (RX).hk (aq_hydrant (nI ((n / 16) % 80)) 1 RX CX).1) (vx_cwSW 3 hts gL_act_L_hydrants rfl rfl rfl (by decide +kernel) ⟨(Nat.le_of_ble_eq_true rfl), (Nat.le_of_ble_eq_true rfl)⟩) hP hO (thr_at hTh hS (fun q h => h)) hN rfl hl.1 (Nat.le_of_ble_eq_true rfl) dL_act_145 ⟨(Nat.le_of_ble_eq_true rfl), (Nat.le_of_ble_eq_true rfl)⟩) hS (fun q h => h) (fun H locs hP hS => ?_)
      exact W.widen (k := 2) (n := 12) (Nat.le_of_ble_eq_true rfl) (Nat.le_of_ble_eq_true rfl) (W.iret hx hb hr (fun t ht hW => ⟨(by rw [fact_5 hi, if_pos (Nat.lt_of_not_le c6f)]), by rw [ht]; exact ⟨_, hP, by rw [fact_5 hi, if_pos (Nat.lt_of_not_le c6f)]; exact ((aq_hydrant (nI ((n / 16) % 80)) 1 RX CX).2.1), ((aq_hydrant (nI ((n / 16) % 80)) 1 RX CX).2.2)⟩, hS.F ht⟩) hS.2.2 dL_act_148)
  · refine lv_tableIn (off := 126) (tgt := 149) hx hb dL_act_23 (by rw [hi]; decide) (by rw [hi]; decide) (by rw [hi]; decide +kernel) (by decide) ?_
    refine lv_aload_n hx hb dL_act_149 rfl (lv_at hl 3 rfl) ?_
    refine lv_bipush (v := 8) hx hb dL_act_150 (by decide) ?_
    refine lv_iload hx hb dL_act_152 (lv_at hl 0 rfl) ?_
    refine lv_iconst (v := 0) hx hb dL_act_154 (by decide) ?_
    refine lv_iconst (v := 0) hx hb dL_act_155 (by decide) ?_
    refine cl_o1 (rSP (A := blk b (b + 170)) (As := [.ref b, .int 8, .int (nI ((n / 16) % (gm (mN M)))), .int 0, .int 0]) (rest := []) ⟨hx, hb, hml, hown, hts⟩ (c_call_8 l G b X (nI ((n / 16) % (gm (mN M)))) 0 0 (rvE (cd "java/lang/IndexOutOfBoundsException") (cd "java/lang/IllegalStateException") (h_X7_leave M (nI ((n / 16) % (gm (mN M)))))) ((pv (h_X6_leave X (nI ((n / 16) % (gm (mN M))))) X).2) hst (RX).ho (RX).hk (aq_leave (nI ((n / 16) % (gm (mN M)))) RX CX).1) (va_cwS 5 hts gL_act_L_call rfl rfl rfl (by decide +kernel) ⟨(Nat.le_of_ble_eq_true rfl), (Nat.le_of_ble_eq_true rfl)⟩) hP hO (thr_at hTh hS (fun q h => h)) hN rfl hl.1 (Nat.le_of_ble_eq_true rfl) dL_act_156 ⟨(Nat.le_of_ble_eq_true rfl), (Nat.le_of_ble_eq_true rfl)⟩) hS (fun q h => h) (fun H locs hP hS => ?_)
    exact W.widen (k := 2) (n := 12) (Nat.le_of_ble_eq_true rfl) (Nat.le_of_ble_eq_true rfl) (W.iret hx hb hr (fun t ht hW => ⟨(by rw [fact_6 hi]), by rw [ht]; exact ⟨_, hP, by rw [fact_6 hi]; exact ((aq_leave (nI ((n / 16) % (gm (mN M)))) RX CX).2.1), ((aq_leave (nI ((n / 16) % (gm (mN M)))) RX CX).2.2)⟩, hS.F ht⟩) hS.2.2 dL_act_159)
  · refine lv_tableIn (off := 137) (tgt := 160) hx hb dL_act_23 (by rw [hi]; decide) (by rw [hi]; decide) (by rw [hi]; decide +kernel) (by decide) ?_
    refine lv_aload_n hx hb dL_act_160 rfl (lv_at hl 3 rfl) ?_
    refine lv_bipush (v := 9) hx hb dL_act_161 (by decide) ?_
    refine lv_iload hx hb dL_act_163 (lv_at hl 0 rfl) ?_
    refine lv_iconst (v := 0) hx hb dL_act_165 (by decide) ?_
    refine lv_iconst (v := 0) hx hb dL_act_166 (by decide) ?_
    refine cl_o1 (rSP (A := blk b (b + 170)) (As := [.ref b, .int 9, .int (nI ((n / 16) % (gm (mN M)))), .int 0, .int 0]) (rest := []) ⟨hx, hb, hml, hown, hts⟩ (c_call_9 l G b X (nI ((n / 16) % (gm (mN M)))) 0 0 (rvE (cd "java/lang/IndexOutOfBoundsException") (cd "java/lang/IllegalStateException") (h_X7_tow M (nI ((n / 16) % (gm (mN M)))))) ((pv (h_X6_tow X (nI ((n / 16) % (gm (mN M))))) X).2) hst (RX).ho (RX).hk (aq_tow (nI ((n / 16) % (gm (mN M)))) RX CX).1) (va_cwS 5 hts gL_act_L_call rfl rfl rfl (by decide +kernel) ⟨(Nat.le_of_ble_eq_true rfl), (Nat.le_of_ble_eq_true rfl)⟩) hP hO (thr_at hTh hS (fun q h => h)) hN rfl hl.1 (Nat.le_of_ble_eq_true rfl) dL_act_167 ⟨(Nat.le_of_ble_eq_true rfl), (Nat.le_of_ble_eq_true rfl)⟩) hS (fun q h => h) (fun H locs hP hS => ?_)
    exact W.widen (k := 2) (n := 12) (Nat.le_of_ble_eq_true rfl) (Nat.le_of_ble_eq_true rfl) (W.iret hx hb hr (fun t ht hW => ⟨(by rw [fact_7 hi]), by rw [ht]; exact ⟨_, hP, by rw [fact_7 hi]; exact ((aq_tow (nI ((n / 16) % (gm (mN M)))) RX CX).2.1), ((aq_tow (nI ((n / 16) % (gm (mN M)))) RX CX).2.2)⟩, hS.F ht⟩) hS.2.2 dL_act_170)
  · refine lv_tableIn (off := 148) (tgt := 171) hx hb dL_act_23 (by rw [hi]; decide) (by rw [hi]; decide) (by rw [hi]; decide +kernel) (by decide) ?_
    refine lv_aload_n hx hb dL_act_171 rfl (lv_at hl 3 rfl) ?_
    refine lv_bipush (v := 10) hx hb dL_act_172 (by decide) ?_
    refine lv_iload hx hb dL_act_174 (lv_at hl 0 rfl) ?_
    refine lv_iload_n hx hb dL_act_176 rfl (lv_at hl 2 rfl) ?_
    refine lv_bipush (v := 40) hx hb dL_act_177 (by decide) ?_
    refine idiv_n (a := n / 16) (b := 40) hx hb ⟨hn16, by decide, by decide⟩ dL_act_179 ?_
    refine lv_bipush (v := 80) hx hb dL_act_180 (by decide) ?_
    refine irem_n (a := (n / 16) / 40) (b := 80) hx hb ⟨hnd 40, by decide, by decide⟩ dL_act_182 ?_
    refine lv_iconst (v := 0) hx hb dL_act_183 (by decide) ?_
    refine cl_o1 (rSP (A := blk b (b + 170)) (As := [.ref b, .int 10, .int (nI ((n / 16) % (gm (mN M)))), .int (nI (((n / 16) / 40) % 80)), .int 0]) (rest := []) ⟨hx, hb, hml, hown, hts⟩ (c_call_10 l G b X (nI ((n / 16) % (gm (mN M)))) (nI (((n / 16) / 40) % 80)) 0 (rvE (cd "java/lang/IndexOutOfBoundsException") (cd "java/lang/IllegalStateException") (h_X7_move M (nI ((n / 16) % (gm (mN M)))) (nI (((n / 16) / 40) % 80)))) ((pv (h_X6_move X (nI ((n / 16) % (gm (mN M)))) (nI (((n / 16) / 40) % 80))) X).2) hst (RX).ho (RX).hk (aq_move (nI ((n / 16) % (gm (mN M)))) (nI (((n / 16) / 40) % 80)) RX CX).1) (va_cwS 5 hts gL_act_L_call rfl rfl rfl (by decide +kernel) ⟨(Nat.le_of_ble_eq_true rfl), (Nat.le_of_ble_eq_true rfl)⟩) hP hO (thr_at hTh hS (fun q h => h)) hN rfl hl.1 (Nat.le_of_ble_eq_true rfl) dL_act_184 ⟨(Nat.le_of_ble_eq_true rfl), (Nat.le_of_ble_eq_true rfl)⟩) hS (fun q h => h) (fun H locs hP hS => ?_)
    exact W.widen (k := 2) (n := 12) (Nat.le_of_ble_eq_true rfl) (Nat.le_of_ble_eq_true rfl) (W.iret hx hb hr (fun t ht hW => ⟨(by rw [fact_8 hi]), by rw [ht]; exact ⟨_, hP, by rw [fact_8 hi]; exact ((aq_move (nI ((n / 16) % (gm (mN M)))) (nI (((n / 16) / 40) % 80)) RX CX).2.1), ((aq_move (nI ((n / 16) % (gm (mN M)))) (nI (((n / 16) / 40) % 80)) RX CX).2.2)⟩, hS.F ht⟩) hS.2.2 dL_act_187)
  · refine lv_tableIn (off := 148) (tgt := 171) hx hb dL_act_23 (by rw [hi]; decide) (by rw [hi]; decide) (by rw [hi]; decide +kernel) (by decide) ?_
    refine lv_aload_n hx hb dL_act_171 rfl (lv_at hl 3 rfl) ?_
    refine lv_bipush (v := 10) hx hb dL_act_172 (by decide) ?_
    refine lv_iload hx hb dL_act_174 (lv_at hl 0 rfl) ?_
    refine lv_iload_n hx hb dL_act_176 rfl (lv_at hl 2 rfl) ?_
    refine lv_bipush (v := 40) hx hb dL_act_177 (by decide) ?_
    refine idiv_n (a := n / 16) (b := 40) hx hb ⟨hn16, by decide, by decide⟩ dL_act_179 ?_
    refine lv_bipush (v := 80) hx hb dL_act_180 (by decide) ?_
    refine irem_n (a := (n / 16) / 40) (b := 80) hx hb ⟨hnd 40, by decide, by decide⟩ dL_act_182 ?_
    refine lv_iconst (v := 0) hx hb dL_act_183 (by decide) ?_
    refine cl_o1 (rSP (A := blk b (b + 170)) (As := [.ref b, .int 10, .int (nI ((n / 16) % (gm (mN M)))), .int (nI (((n / 16) / 40) % 80)), .int 0]) (rest := []) ⟨hx, hb, hml, hown, hts⟩ (c_call_10 l G b X (nI ((n / 16) % (gm (mN M)))) (nI (((n / 16) / 40) % 80)) 0 (rvE (cd "java/lang/IndexOutOfBoundsException") (cd "java/lang/IllegalStateException") (h_X7_move M (nI ((n / 16) % (gm (mN M)))) (nI (((n / 16) / 40) % 80)))) ((pv (h_X6_move X (nI ((n / 16) % (gm (mN M)))) (nI (((n / 16) / 40) % 80))) X).2) hst (RX).ho (RX).hk (aq_move (nI ((n / 16) % (gm (mN M)))) (nI (((n / 16) / 40) % 80)) RX CX).1) (va_cwS 5 hts gL_act_L_call rfl rfl rfl (by decide +kernel) ⟨(Nat.le_of_ble_eq_true rfl), (Nat.le_of_ble_eq_true rfl)⟩) hP hO (thr_at hTh hS (fun q h => h)) hN rfl hl.1 (Nat.le_of_ble_eq_true rfl) dL_act_184 ⟨(Nat.le_of_ble_eq_true rfl), (Nat.le_of_ble_eq_true rfl)⟩) hS (fun q h => h) (fun H locs hP hS => ?_)
    exact W.widen (k := 2) (n := 12) (Nat.le_of_ble_eq_true rfl) (Nat.le_of_ble_eq_true rfl) (W.iret hx hb hr (fun t ht hW => ⟨(by rw [fact_9 hi]), by rw [ht]; exact ⟨_, hP, by rw [fact_9 hi]; exact ((aq_move (nI ((n / 16) % (gm (mN M)))) (nI (((n / 16) / 40) % 80)) RX CX).2.1), ((aq_move (nI ((n / 16) % (gm (mN M)))) (nI (((n / 16) / 40) % 80)) RX CX).2.2)⟩, hS.F ht⟩) hS.2.2 dL_act_187)
  · refine lv_tableIn (off := 165) (tgt := 188) hx hb dL_act_23 (by rw [hi]; decide) (by rw [hi]; decide) (by rw [hi]; decide +kernel) (by decide) ?_
    refine lv_aload_n hx hb dL_act_188 rfl (lv_at hl 3 rfl) ?_
    refine lv_bipush (v := 12) hx hb dL_act_189 (by decide) ?_
    refine lv_iconst (v := 0) hx hb dL_act_191 (by decide) ?_
    refine lv_iload_n hx hb dL_act_192 rfl (lv_at hl 2 rfl) ?_
    refine lv_iconst (v := 3) hx hb dL_act_193 (by decide) ?_
    refine irem_n (a := n / 16) (b := 3) hx hb ⟨hn16, by decide, by decide⟩ dL_act_194 ?_
    refine lv_iconst (v := 0) hx hb dL_act_195 (by decide) ?_
    refine cl_o1 (rSP (A := blk b (b + 170)) (As := [.ref b, .int 12, .int 0, .int (nI ((n / 16) % 3)), .int 0]) (rest := []) ⟨hx, hb, hml, hown, hts⟩ (c_call_12 l G b X 0 (nI ((n / 16) % 3)) 0 (rvE (cd "java/lang/IllegalArgumentException") (cd "java/lang/IllegalArgumentException") (h_X7_set M 0 (nI ((n / 16) % 3)))) ((pv (h_X6_set X 0 (nI ((n / 16) % 3))) X).2) hst (RX).ho (RX).hk (aq_set 0 (nI ((n / 16) % 3)) RX CX).1) (va_cwS 5 hts gL_act_L_call rfl rfl rfl (by decide +kernel) ⟨(Nat.le_of_ble_eq_true rfl), (Nat.le_of_ble_eq_true rfl)⟩) hP hO (thr_at hTh hS (fun q h => h)) hN rfl hl.1 (Nat.le_of_ble_eq_true rfl) dL_act_196 ⟨(Nat.le_of_ble_eq_true rfl), (Nat.le_of_ble_eq_true rfl)⟩) hS (fun q h => h) (fun H locs hP hS => ?_)
    exact W.widen (k := 2) (n := 12) (Nat.le_of_ble_eq_true rfl) (Nat.le_of_ble_eq_true rfl) (W.iret hx hb hr (fun t ht hW => ⟨(by rw [fact_10 hi]), by rw [ht]; exact ⟨_, hP, by rw [fact_10 hi]; exact ((aq_set 0 (nI ((n / 16) % 3)) RX CX).2.1), ((aq_set 0 (nI ((n / 16) % 3)) RX CX).2.2)⟩, hS.F ht⟩) hS.2.2 dL_act_199)
  · refine lv_tableIn (off := 177) (tgt := 200) hx hb dL_act_23 (by rw [hi]; decide) (by rw [hi]; decide) (by rw [hi]; decide +kernel) (by decide) ?_
    refine lv_iload_n hx hb dL_act_200 rfl (lv_at hl 2 rfl) ?_
    refine lv_iconst (v := 2) hx hb dL_act_201 (by decide) ?_
    refine irem_n (a := n / 16) (b := 2) hx hb ⟨hn16, by decide, by decide⟩ dL_act_202 ?_
    refine lv_if_ne (tgt := 222) hx hb dL_act_203 (by decide) (fun c7 => ?_) (fun c7 => ?_)
    · have c7f : ¬ ((n / 16) % 2 : Nat) = 0 := fun z => c7 (congrArg nI z)
      refine lv_aload_n hx hb dL_act_222 rfl (lv_at hl 3 rfl) ?_
      refine lv_bipush (v := 12) hx hb dL_act_223 (by decide) ?_
      refine lv_iconst (v := 2) hx hb dL_act_225 (by decide) ?_
      refine lv_iconst (v := 1) hx hb dL_act_226 (by decide) ?_
      refine lv_iload_n hx hb dL_act_227 rfl (lv_at hl 2 rfl) ?_
      refine lv_iconst (v := 2) hx hb dL_act_228 (by decide) ?_
      refine idiv_n (a := n / 16) (b := 2) hx hb ⟨hn16, by decide, by decide⟩ dL_act_229 ?_
      refine lv_bipush (v := 30) hx hb dL_act_230 (by decide) ?_
      refine irem_n (a := (n / 16) / 2) (b := 30) hx hb ⟨hnd 2, by decide, by decide⟩ dL_act_232 ?_
      refine iadd_n (a := 1) (b := ((n / 16) / 2) % 30) hx hb dL_act_233 ?_
      refine lv_iconst (v := 0) hx hb dL_act_234 (by decide) ?_
      refine cl_o1 (rSP (A := blk b (b + 170)) (As := [.ref b, .int 12, .int 2, .int (nI (1 + (((n / 16) / 2) % 30))), .int 0]) (rest := []) ⟨hx, hb, hml, hown, hts⟩ (c_call_12 l G b X 2 (nI (1 + (((n / 16) / 2) % 30))) 0 (rvE (cd "java/lang/IllegalArgumentException") (cd "java/lang/IllegalArgumentException") (h_X7_set M 2 (nI (1 + (((n / 16) / 2) % 30))))) ((pv (h_X6_set X 2 (nI (1 + (((n / 16) / 2) % 30)))) X).2) hst (RX).ho (RX).hk (aq_set 2 (nI (1 + (((n / 16) / 2) % 30))) RX CX).1) (va_cwS 5 hts gL_act_L_call rfl rfl rfl (by decide +kernel) ⟨(Nat.le_of_ble_eq_true rfl), (Nat.le_of_ble_eq_true rfl)⟩) hP hO (thr_at hTh hS (fun q h => h)) hN rfl hl.1 (Nat.le_of_ble_eq_true rfl) dL_act_235 ⟨(Nat.le_of_ble_eq_true rfl), (Nat.le_of_ble_eq_true rfl)⟩) hS (fun q h => h) (fun H locs hP hS => ?_)
      exact W.widen (k := 2) (n := 12) (Nat.le_of_ble_eq_true rfl) (Nat.le_of_ble_eq_true rfl) (W.iret hx hb hr (fun t ht hW => ⟨(by rw [fact_11 hi, if_neg c7f]), by rw [ht]; exact ⟨_, hP, by rw [fact_11 hi, if_neg c7f]; exact ((aq_set 2 (nI (1 + (((n / 16) / 2) % 30))) RX CX).2.1), ((aq_set 2 (nI (1 + (((n / 16) / 2) % 30))) RX CX).2.2)⟩, hS.F ht⟩) hS.2.2 dL_act_238)
    · have c7f : ((n / 16) % 2 : Nat) = 0 := nI_inj (a := (n / 16) % 2) (b := 0) (by omega) (by omega) c7
      refine lv_aload_n hx hb dL_act_206 rfl (lv_at hl 3 rfl) ?_
      refine lv_bipush (v := 12) hx hb dL_act_207 (by decide) ?_
      refine lv_iconst (v := 1) hx hb dL_act_209 (by decide) ?_
      refine lv_iload_n hx hb dL_act_210 rfl (lv_at hl 2 rfl) ?_
      refine lv_iconst (v := 2) hx hb dL_act_211 (by decide) ?_
      refine idiv_n (a := n / 16) (b := 2) hx hb ⟨hn16, by decide, by decide⟩ dL_act_212 ?_
      refine lv_iconst (v := 5) hx hb dL_act_213 (by decide) ?_
      refine irem_n (a := (n / 16) / 2) (b := 5) hx hb ⟨hnd 2, by decide, by decide⟩ dL_act_214 ?_
      refine lv_iconst (v := 0) hx hb dL_act_215 (by decide) ?_
      refine cl_o1 (rSP (A := blk b (b + 170)) (As := [.ref b, .int 12, .int 1, .int (nI (((n / 16) / 2) % 5)), .int 0]) (rest := []) ⟨hx, hb, hml, hown, hts⟩ (c_call_12 l G b X 1 (nI (((n / 16) / 2) % 5)) 0 (rvE (cd "java/lang/IllegalArgumentException") (cd "java/lang/IllegalArgumentException") (h_X7_set M 1 (nI (((n / 16) / 2) % 5)))) ((pv (h_X6_set X 1 (nI (((n / 16) / 2) % 5))) X).2) hst (RX).ho (RX).hk (aq_set 1 (nI (((n / 16) / 2) % 5)) RX CX).1) (va_cwS 5 hts gL_act_L_call rfl rfl rfl (by decide +kernel) ⟨(Nat.le_of_ble_eq_true rfl), (Nat.le_of_ble_eq_true rfl)⟩) hP hO (thr_at hTh hS (fun q h => h)) hN rfl hl.1 (Nat.le_of_ble_eq_true rfl) dL_act_216 ⟨(Nat.le_of_ble_eq_true rfl), (Nat.le_of_ble_eq_true rfl)⟩) hS (fun q h => h) (fun H locs hP hS => ?_)
      refine lv_goto (tgt := 238) hx hb dL_act_219 (by decide) ?_
      exact W.widen (k := 2) (n := 12) (Nat.le_of_ble_eq_true rfl) (Nat.le_of_ble_eq_true rfl) (W.iret hx hb hr (fun t ht hW => ⟨(by rw [fact_11 hi, if_pos c7f]), by rw [ht]; exact ⟨_, hP, by rw [fact_11 hi, if_pos c7f]; exact ((aq_set 1 (nI (((n / 16) / 2) % 5)) RX CX).2.1), ((aq_set 1 (nI (((n / 16) / 2) % 5)) RX CX).2.2)⟩, hS.F ht⟩) hS.2.2 dL_act_238)
  · refine lv_tableIn (off := 216) (tgt := 239) hx hb dL_act_23 (by rw [hi]; decide) (by rw [hi]; decide) (by rw [hi]; decide +kernel) (by decide) ?_
    refine lv_iload_n hx hb dL_act_239 rfl (lv_at hl 1 rfl) ?_
    refine lv_iconst (v := 3) hx hb dL_act_240 (by decide) ?_
    refine lv_icmp_ge (tgt := 248) hx hb dL_act_241 (by decide) (fun c8 => ?_) (fun c8 => ?_)
    · have c8f : 3 ≤ gm (mN M) := (nI_leI (a := 3) (b := gm (mN M)) (by omega) (by omega)).mp c8
      refine lv_aload_n hx hb dL_act_248 rfl (lv_at hl 3 rfl) ?_
      refine lv_bipush (v := 13) hx hb dL_act_249 (by decide) ?_
      refine lv_iconst (v := 0) hx hb dL_act_251 (by decide) ?_
      refine lv_iconst (v := 0) hx hb dL_act_252 (by decide) ?_
      refine lv_iconst (v := 0) hx hb dL_act_253 (by decide) ?_
      refine cl_o1 (rSP (A := blk b (b + 170)) (As := [.ref b, .int 13, .int 0, .int 0, .int 0]) (rest := []) ⟨hx, hb, hml, hown, hts⟩ (c_call_13 l G b X 0 0 0 (rvE (cd "java/lang/IllegalStateException") (cd "java/lang/IllegalStateException") (h_X7_undo M)) ((pv (h_X6_undo X) X).2) hst (RX).ho (RX).hk (aq_undo RX CX (by omega)).1) (va_cwS 5 hts gL_act_L_call rfl rfl rfl (by decide +kernel) ⟨(Nat.le_of_ble_eq_true rfl), (Nat.le_of_ble_eq_true rfl)⟩) hP hO (thr_at hTh hS (fun q h => h)) hN rfl hl.1 (Nat.le_of_ble_eq_true rfl) dL_act_254 ⟨(Nat.le_of_ble_eq_true rfl), (Nat.le_of_ble_eq_true rfl)⟩) hS (fun q h => h) (fun H locs hP hS => ?_)
      exact W.widen (k := 2) (n := 12) (Nat.le_of_ble_eq_true rfl) (Nat.le_of_ble_eq_true rfl) (W.iret hx hb hr (fun t ht hW => ⟨(by rw [fact_12 hi, if_neg (Nat.not_lt.mpr c8f)]), by rw [ht]; exact ⟨_, hP, by rw [fact_12 hi, if_neg (Nat.not_lt.mpr c8f)]; exact ((aq_undo RX CX (by omega)).2.1), ((aq_undo RX CX (by omega)).2.2)⟩, hS.F ht⟩) hS.2.2 dL_act_257)
    · have c8f : ¬ 3 ≤ (gm (mN M)) := fun z => c8 ((nI_leI (a := 3) (b := gm (mN M)) (by omega) (by omega)).mpr z)
      refine lv_iconst (v := -1) hx hb dL_act_244 (by decide) ?_
      refine lv_goto (tgt := 257) hx hb dL_act_245 (by decide) ?_
      exact W.widen (k := 2) (n := 12) (Nat.le_of_ble_eq_true rfl) (Nat.le_of_ble_eq_true rfl) (W.iret hx hb hr (fun t ht hW => ⟨(by rw [fact_12 hi, if_pos (Nat.lt_of_not_le c8f)]), by rw [ht]; exact ⟨_, hP, by rw [fact_12 hi, if_pos (Nat.lt_of_not_le c8f)]; exact RX, CX⟩, hS.F ht⟩) hS.2.2 dL_act_257)
  · refine lv_tableIn (off := 235) (tgt := 258) hx hb dL_act_23 (by rw [hi]; decide) (by rw [hi]; decide) (by rw [hi]; decide +kernel) (by decide) ?_
    refine lv_iload_n hx hb dL_act_258 rfl (lv_at hl 2 rfl) ?_
    refine lv_iconst (v := 2) hx hb dL_act_259 (by decide) ?_
    refine irem_n (a := n / 16) (b := 2) hx hb ⟨hn16, by decide, by decide⟩ dL_act_260 ?_
    refine lv_if_ne (tgt := 280) hx hb dL_act_261 (by decide) (fun c9 => ?_) (fun c9 => ?_)
    · have c9f : ¬ ((n / 16) % 2 : Nat) = 0 := fun z => c9 (congrArg nI z)
      refine lv_aload_n hx hb dL_act_280 rfl (lv_at hl 3 rfl) ?_
      refine lv_bipush (v := 20) hx hb dL_act_281 (by decide) ?_
      refine lv_iload_n hx hb dL_act_283 rfl (lv_at hl 2 rfl) ?_
      refine lv_iconst (v := 2) hx hb dL_act_284 (by decide) ?_
      refine idiv_n (a := n / 16) (b := 2) hx hb ⟨hn16, by decide, by decide⟩ dL_act_285 ?_
      refine lv_iconst (v := 2) hx hb dL_act_286 (by decide) ?_
      refine irem_n (a := (n / 16) / 2) (b := 2) hx hb ⟨hnd 2, by decide, by decide⟩ dL_act_287 ?_
      refine lv_iconst (v := 0) hx hb dL_act_288 (by decide) ?_
      refine lv_iconst (v := 0) hx hb dL_act_289 (by decide) ?_
      refine cl_o1 (rSP (A := blk b (b + 170)) (As := [.ref b, .int 20, .int (nI (((n / 16) / 2) % 2)), .int 0, .int 0]) (rest := []) ⟨hx, hb, hml, hown, hts⟩ (c_call_20 l G b X (nI (((n / 16) / 2) % 2)) 0 0 (rvE (cd "java/lang/IndexOutOfBoundsException") (cd "java/lang/IllegalStateException") (h_X7_restore M (nI (((n / 16) / 2) % 2)))) ((pv (h_X6_restore X (nI (((n / 16) / 2) % 2))) X).2) hst (aq_restore (j := ((n / 16) / 2) % 2) (by omega) RX CX).1) (va_cwS 5 hts gL_act_L_call rfl rfl rfl (by decide +kernel) ⟨(Nat.le_of_ble_eq_true rfl), (Nat.le_of_ble_eq_true rfl)⟩) hP hO (thr_at hTh hS (fun q h => h)) hN rfl hl.1 (Nat.le_of_ble_eq_true rfl) dL_act_290 ⟨(Nat.le_of_ble_eq_true rfl), (Nat.le_of_ble_eq_true rfl)⟩) hS (fun q h => h) (fun H locs hP hS => ?_)
      exact W.widen (k := 2) (n := 12) (Nat.le_of_ble_eq_true rfl) (Nat.le_of_ble_eq_true rfl) (W.iret hx hb hr (fun t ht hW => ⟨(by rw [fact_13 hi, if_neg c9f]), by rw [ht]; exact ⟨_, hP, by rw [fact_13 hi, if_neg c9f]; exact ((aq_restore (j := ((n / 16) / 2) % 2) (by omega) RX CX).2.1), ((aq_restore (j := ((n / 16) / 2) % 2) (by omega) RX CX).2.2)⟩, hS.F ht⟩) hS.2.2 dL_act_293)
    · have c9f : ((n / 16) % 2 : Nat) = 0 := nI_inj (a := (n / 16) % 2) (b := 0) (by omega) (by omega) c9
      refine lv_aload_n hx hb dL_act_264 rfl (lv_at hl 3 rfl) ?_
      refine lv_bipush (v := 19) hx hb dL_act_265 (by decide) ?_
      refine lv_iload_n hx hb dL_act_267 rfl (lv_at hl 2 rfl) ?_
      refine lv_iconst (v := 2) hx hb dL_act_268 (by decide) ?_
      refine idiv_n (a := n / 16) (b := 2) hx hb ⟨hn16, by decide, by decide⟩ dL_act_269 ?_
      refine lv_iconst (v := 2) hx hb dL_act_270 (by decide) ?_
      refine irem_n (a := (n / 16) / 2) (b := 2) hx hb ⟨hnd 2, by decide, by decide⟩ dL_act_271 ?_
      refine lv_iconst (v := 0) hx hb dL_act_272 (by decide) ?_
      refine lv_iconst (v := 0) hx hb dL_act_273 (by decide) ?_
      refine cl_o1 (rSP (A := blk b (b + 170)) (As := [.ref b, .int 19, .int (nI (((n / 16) / 2) % 2)), .int 0, .int 0]) (rest := []) ⟨hx, hb, hml, hown, hts⟩ (c_call_19 l G b X (nI (((n / 16) / 2) % 2)) 0 0 (rvE (cd "java/lang/IndexOutOfBoundsException") (cd "java/lang/IndexOutOfBoundsException") (h_X7_save M (nI (((n / 16) / 2) % 2)))) ((pv (h_X6_save X (nI (((n / 16) / 2) % 2))) X).2) hst (aq_save (j := ((n / 16) / 2) % 2) (by omega) RX CX).1) (va_cwS 5 hts gL_act_L_call rfl rfl rfl (by decide +kernel) ⟨(Nat.le_of_ble_eq_true rfl), (Nat.le_of_ble_eq_true rfl)⟩) hP hO (thr_at hTh hS (fun q h => h)) hN rfl hl.1 (Nat.le_of_ble_eq_true rfl) dL_act_274 ⟨(Nat.le_of_ble_eq_true rfl), (Nat.le_of_ble_eq_true rfl)⟩) hS (fun q h => h) (fun H locs hP hS => ?_)
      refine lv_goto (tgt := 293) hx hb dL_act_277 (by decide) ?_
      exact W.widen (k := 2) (n := 12) (Nat.le_of_ble_eq_true rfl) (Nat.le_of_ble_eq_true rfl) (W.iret hx hb hr (fun t ht hW => ⟨(by rw [fact_13 hi, if_pos c9f]), by rw [ht]; exact ⟨_, hP, by rw [fact_13 hi, if_pos c9f]; exact ((aq_save (j := ((n / 16) / 2) % 2) (by omega) RX CX).2.1), ((aq_save (j := ((n / 16) / 2) % 2) (by omega) RX CX).2.2)⟩, hS.F ht⟩) hS.2.2 dL_act_293)
  · refine lv_tableOut (tgt := 294) hx hb dL_act_23 (by rw [hi]; decide) (by decide) ?_
    refine lv_aload_n hx hb dL_act_294 rfl (lv_at hl 3 rfl) ?_
    refine lv_bipush (v := 11) hx hb dL_act_295 (by decide) ?_
    refine lv_iconst (v := 1) hx hb dL_act_297 (by decide) ?_
    refine lv_iload_n hx hb dL_act_298 rfl (lv_at hl 2 rfl) ?_
    refine lv_bipush (v := 9) hx hb dL_act_299 (by decide) ?_
    refine irem_n (a := n / 16) (b := 9) hx hb ⟨hn16, by decide, by decide⟩ dL_act_301 ?_
    refine iadd_n (a := 1) (b := (n / 16) % 9) hx hb dL_act_302 ?_
    refine lv_iconst (v := 0) hx hb dL_act_303 (by decide) ?_
    refine lv_iconst (v := 0) hx hb dL_act_304 (by decide) ?_
    refine cl_o1 (rSP (A := blk b (b + 170)) (As := [.ref b, .int 11, .int (nI (1 + ((n / 16) % 9))), .int 0, .int 0]) (rest := []) ⟨hx, hb, hml, hown, hts⟩ (c_call_11 l G b X (nI (1 + ((n / 16) % 9))) 0 0 ((h_X7_minutesOn (mN M) (nI (1 + ((n / 16) % 9)))).1) (wt X (1 + ((n / 16) % 9))) hst (RX).ho (RX).hk (aq_min (p := 1 + ((n / 16) % 9)) (by omega) RX CX).1) (va_cwS 5 hts gL_act_L_call rfl rfl rfl (by decide +kernel) ⟨(Nat.le_of_ble_eq_true rfl), (Nat.le_of_ble_eq_true rfl)⟩) hP hO (thr_at hTh hS (fun q h => h)) hN rfl hl.1 (Nat.le_of_ble_eq_true rfl) dL_act_305 ⟨(Nat.le_of_ble_eq_true rfl), (Nat.le_of_ble_eq_true rfl)⟩) hS (fun q h => h) (fun H locs hP hS => ?_)
    exact W.widen (k := 2) (n := 12) (Nat.le_of_ble_eq_true rfl) (Nat.le_of_ble_eq_true rfl) (W.iret hx hb hr (fun t ht hW => ⟨(by rw [fact_14 hi]), by rw [ht]; exact ⟨_, hP, by rw [fact_14 hi]; exact ((aq_min (p := 1 + ((n / 16) % 9)) (by omega) RX CX).2.1), ((aq_min (p := 1 + ((n / 16) % 9)) (by omega) RX CX).2.2)⟩, hS.F ht⟩) hS.2.2 dL_act_308)
  · refine lv_tableOut (tgt := 294) hx hb dL_act_23 (by rw [hi]; decide) (by decide) ?_
    refine lv_aload_n hx hb dL_act_294 rfl (lv_at hl 3 rfl) ?_
    refine lv_bipush (v := 11) hx hb dL_act_295 (by decide) ?_
    refine lv_iconst (v := 1) hx hb dL_act_297 (by decide) ?_
    refine lv_iload_n hx hb dL_act_298 rfl (lv_at hl 2 rfl) ?_
    refine lv_bipush (v := 9) hx hb dL_act_299 (by decide) ?_
    refine irem_n (a := n / 16) (b := 9) hx hb ⟨hn16, by decide, by decide⟩ dL_act_301 ?_
    refine iadd_n (a := 1) (b := (n / 16) % 9) hx hb dL_act_302 ?_
    refine lv_iconst (v := 0) hx hb dL_act_303 (by decide) ?_
    refine lv_iconst (v := 0) hx hb dL_act_304 (by decide) ?_
    refine cl_o1 (rSP (A := blk b (b + 170)) (As := [.ref b, .int 11, .int (nI (1 + ((n / 16) % 9))), .int 0, .int 0]) (rest := []) ⟨hx, hb, hml, hown, hts⟩ (c_call_11 l G b X (nI (1 + ((n / 16) % 9))) 0 0 ((h_X7_minutesOn (mN M) (nI (1 + ((n / 16) % 9)))).1) (wt X (1 + ((n / 16) % 9))) hst (RX).ho (RX).hk (aq_min (p := 1 + ((n / 16) % 9)) (by omega) RX CX).1) (va_cwS 5 hts gL_act_L_call rfl rfl rfl (by decide +kernel) ⟨(Nat.le_of_ble_eq_true rfl), (Nat.le_of_ble_eq_true rfl)⟩) hP hO (thr_at hTh hS (fun q h => h)) hN rfl hl.1 (Nat.le_of_ble_eq_true rfl) dL_act_305 ⟨(Nat.le_of_ble_eq_true rfl), (Nat.le_of_ble_eq_true rfl)⟩) hS (fun q h => h) (fun H locs hP hS => ?_)
    exact W.widen (k := 2) (n := 12) (Nat.le_of_ble_eq_true rfl) (Nat.le_of_ble_eq_true rfl) (W.iret hx hb hr (fun t ht hW => ⟨(by rw [fact_15 hi]), by rw [ht]; exact ⟨_, hP, by rw [fact_15 hi]; exact ((aq_min (p := 1 + ((n / 16) % 9)) (by omega) RX CX).2.1), ((aq_min (p := 1 + ((n / 16) % 9)) (by omega) RX CX).2.2)⟩, hS.F ht⟩) hS.2.2 dL_act_308)

set_option maxHeartbeats 8000000 in
set_option maxRecDepth 100000 in
theorem c_L_alike (l : Launch) (G : GG) (a b : Nat) (hd : a + 170 ≤ b) (X Y : Cx) (M : Mo) (n : Nat) (hst : l.stackTraces = false) (RX : RelX X M) (RY : RelX Y M) (hn : n < 2 ^ 31) : Met l yL_alike wsL_alike ({ frames := 12, cells := 644, slots := 3864, locals := 210 }) (PcN G (fun q => blk a (a + 170) q ∨ blk b (b + 170) q) [.ref a, .ref b, .int (nI n)] (fun H => Cb G a X H ∧ Cb G b Y H)) (QM (some (.int 1)) (fun H => ∃ T T', Cb G a (yR X T) H ∧ Cb G b (yR Y T') H) (fun q => blk a (a + 170) q ∨ blk b (b + 170) q)) 644 3864 (fun q => blk a (a + 170) q ∨ blk b (b + 170) q) := by
  refine metN (cc := cL_alike) (maxL := 5) (ret := (some .boolean)) (by decide) rfl ?_
  intro p e s m below meth cd hx hb hr hml hown hts hlocks hP hO hTh hN
  obtain ⟨hP, hQ⟩ := hP
  obtain ⟨T1, eT1⟩ := al_sim (nI n).toInt64 (nI (1 + n % 30)) RX
  obtain ⟨T2, eT2⟩ := al_sim (nI n).toInt64 (nI (1 + n % 30)) RY
  obtain ⟨T3, eT3⟩ := al_jam (nI (2 + n % 7)) (nI n).toInt64 (RX.yR T1)
  obtain ⟨T4, eT4⟩ := al_jam (nI (2 + n % 7)) (nI n).toInt64 (RY.yR T2)
  have hS : va_S (fun q => blk a (a + 170) q ∨ blk b (b + 170) q) s.heap s.heap [] := va_S.rf
  have hl := lv_entry ([.ref a, .ref b, .int (nI n)]) (n := 5) (Nat.le_of_ble_eq_true rfl)
  rw [lg_entry_eq]
  generalize (lg_sl ([.ref a, .ref b, .int (nI n)]) ++ List.replicate (5 - (lg_sl ([.ref a, .ref b, .int (nI n)])).length) Slot.unset).toArray = ls at hl ⊢
  have hl : lv_has ls 5 [(0, .ref a), (1, .ref b), (2, .int (nI n))] := hl
  have cut63 : ∀ (n63 : Nat) (k : Nat), 80 < k + n63 → k ≤ 80 → ∀ (H : Heap) (locs : List Loc) (ls : Array Slot), Cb G a (yR (yR X T1) T3) H → Cb G b (yR (yR Y T2) T4) H → va_S (fun q => blk a (a + 170) q ∨ blk b (b + 170) q) s.heap H locs → lv_has ls 5 [(0, .ref a), (1, .ref b), (2, .int (nI n)), (3, .int 1), (4, .int (nI k))] → W p l e (headSpec wsL_alike ({ frames := 12, cells := 644, slots := 3864, locals := 210 } : Room)).room s m ([.ref a, .ref b, .int (nI n)] : List Value).toArray below meth cd H locs (4 + 8 * k) (24 + 48 * k) (MQ below (QM (some (.int 1)) (fun H => ∃ T T', Cb G a (yR X T) H ∧ Cb G b (yR Y T') H) (fun q => blk a (a + 170) q ∨ blk b (b + 170) q)) ([.ref a, .ref b, .int (nI n)] : List Value).toArray s 644 3864 (fun q => blk a (a + 170) q ∨ blk b (b + 170) q)) (F0 m 63 ls []) := by
    intro n63
    induction n63 with
    | zero =>
      intro k hn63 hk
      omega
    | succ n63 ih63 =>
      intro k hn63 hk H locs ls hP hQ hS hl
      refine lv_iload hx hb dL_alike_63 (lv_at hl 4 rfl) ?_
      refine lv_bipush (v := 80) hx hb dL_alike_65 (by decide) ?_
      refine lv_icmp_ge (tgt := 185) hx hb dL_alike_67 (by decide) (fun c1 => ?_) (fun c1 => ?_)
      · have c1f : 80 ≤ k := (nI_leI (a := 80) (b := k) (by omega) (by omega)).mp c1
        refine lv_iload_n hx hb dL_alike_185 rfl (lv_at hl 3 rfl) ?_
        exact W.widen (k := 644) (n := 3864) (by show 4 + 8 * k ≤ 644; omega) (by show 24 + 48 * k ≤ 3864; omega) (W.zret (ty := .boolean) hx hb hr rfl (fun t ht hW => ⟨rfl, by rw [ht]; exact ⟨T3, T4, hP, hQ⟩, hS.F ht⟩) hS.2.2 dL_alike_186)
      · have c1f : ¬ 80 ≤ k := fun z => c1 ((nI_leI (a := 80) (b := k) (by omega) (by omega)).mpr z)
        refine lv_iload_n hx hb dL_alike_70 rfl (lv_at hl 3 rfl) ?_
        refine lv_if_eq (tgt := 185) hx hb dL_alike_71 (by decide) (fun c2 => absurd c2 (by decide)) (fun _ => ?_)
        refine lv_aload_n hx hb dL_alike_74 rfl (lv_at hl 0 rfl) ?_
        refine lv_iconst (v := 4) hx hb dL_alike_75 (by decide) ?_
        refine lv_iload hx hb dL_alike_76 (lv_at hl 4 rfl) ?_
        refine lv_iconst (v := 0) hx hb dL_alike_78 (by decide) ?_
        refine lv_iconst (v := 0) hx hb dL_alike_79 (by decide) ?_
        refine cl_o2 (rSP (A := blk a (a + 170)) (As := [.ref a, .int 4, .int (nI k), .int 0, .int 0]) (rest := []) ⟨hx, hb, hml, hown, hts⟩ (c_call_4 l G a (yR (yR X T1) T3) (nI k) 0 0 (rvE (cd "java/lang/IndexOutOfBoundsException") (cd "java/lang/IndexOutOfBoundsException") (h_X7_at M (nI k))) (yR (yR X T1) T3) hst (al_at (nI k) ((RX.yR T1).yR T3))) (va_cwS 5 hts gL_alike_L_call rfl rfl rfl (by decide +kernel) ⟨(Nat.le_of_ble_eq_true rfl), (Nat.le_of_ble_eq_true rfl)⟩) hP hO (thr_at hTh hS (fun q h => Or.inl h)) hN rfl hl.1 (Nat.le_of_ble_eq_true rfl) dL_alike_80 ⟨(by show 4 + 8 * k + 1 ≤ 644; omega), (by show 24 + 48 * k + 6 ≤ 3864; omega)⟩) hS (fun q h => Or.inl h) hQ (Or.inl hd) (fun H locs hP hQ hS => ?_)
        refine lv_aload_n hx hb dL_alike_83 rfl (lv_at hl 1 rfl) ?_
        refine lv_iconst (v := 4) hx hb dL_alike_84 (by decide) ?_
        refine lv_iload hx hb dL_alike_85 (lv_at hl 4 rfl) ?_
        refine lv_iconst (v := 0) hx hb dL_alike_87 (by decide) ?_
        refine lv_iconst (v := 0) hx hb dL_alike_88 (by decide) ?_
        refine cl_o2 (rSP (A := blk b (b + 170)) (As := [.ref b, .int 4, .int (nI k), .int 0, .int 0]) (rest := [.int (rvE (cd "java/lang/IndexOutOfBoundsException") (cd "java/lang/IndexOutOfBoundsException") (h_X7_at M (nI k)))]) ⟨hx, hb, hml, hown, hts⟩ (c_call_4 l G b (yR (yR Y T2) T4) (nI k) 0 0 (rvE (cd "java/lang/IndexOutOfBoundsException") (cd "java/lang/IndexOutOfBoundsException") (h_X7_at M (nI k))) (yR (yR Y T2) T4) hst (al_at (nI k) ((RY.yR T2).yR T4))) (va_cwS 5 hts gL_alike_L_call rfl rfl rfl (by decide +kernel) ⟨(Nat.le_of_ble_eq_true rfl), (Nat.le_of_ble_eq_true rfl)⟩) hQ hO (thr_at hTh hS (fun q h => Or.inr h)) hN rfl hl.1 (Nat.le_of_ble_eq_true rfl) dL_alike_89 ⟨(by show 4 + 8 * k + 1 + 1 ≤ 644; omega), (by show 24 + 48 * k + 6 + 6 ≤ 3864; omega)⟩) hS (fun q h => Or.inr h) hP (Or.inr hd) (fun H locs hQ hP hS => ?_)
        refine lv_icmp_ne (tgt := 177) hx hb dL_alike_92 (by decide) (fun c3 => absurd rfl c3) (fun _ => ?_)
        refine lv_iload hx hb dL_alike_95 (lv_at hl 4 rfl) ?_
        refine lv_bipush (v := 40) hx hb dL_alike_97 (by decide) ?_
        refine lv_icmp_gt (tgt := 173) hx hb dL_alike_99 (by decide) (fun c4 => ?_) (fun c4 => ?_)
        · have c4f : 40 < k := (nI_ltI (a := 40) (b := k) (by omega) (by omega)).mp c4
          refine lv_iconst (v := 1) hx hb dL_alike_173 (by decide) ?_
          refine lv_goto (tgt := 178) hx hb dL_alike_174 (by decide) ?_
          refine lv_istore_n (lv' := [(3, .int 1), (0, .ref a), (1, .ref b), (2, .int (nI n)), (4, .int (nI k))]) hx hb dL_alike_178 rfl hl (by decide) rfl (fun ls hl => ?_)
          refine lv_iinc (v := nI (k + 1)) (lv' := [(4, .int (nI (k + 1))), (3, .int 1), (0, .ref a), (1, .ref b), (2, .int (nI n))]) hx hb dL_alike_179 hl (k := 4) rfl (nI_1 _) (by decide) rfl (fun ls hl => ?_)
          refine lv_goto (tgt := 63) hx hb dL_alike_182 (by decide) ?_
          refine W.widen (k := 4 + 8 * (k + 1)) (n := 24 + 48 * (k + 1)) (by omega) (by omega) ?_
          exact ih63 (k + 1) (by omega) (by omega) _ _ _ hP hQ hS (lv_sub hl [2, 3, 4, 1, 0] rfl)
        · have c4f : ¬ 40 < k := fun z => c4 ((nI_ltI (a := 40) (b := k) (by omega) (by omega)).mpr z)
          refine lv_aload_n hx hb dL_alike_102 rfl (lv_at hl 0 rfl) ?_
          refine lv_iconst (v := 2) hx hb dL_alike_103 (by decide) ?_
          refine lv_iload hx hb dL_alike_104 (lv_at hl 4 rfl) ?_
          refine lv_iconst (v := 0) hx hb dL_alike_106 (by decide) ?_
          refine lv_iconst (v := 0) hx hb dL_alike_107 (by decide) ?_
          refine cl_o2 (rSP (A := blk a (a + 170)) (As := [.ref a, .int 2, .int (nI k), .int 0, .int 0]) (rest := []) ⟨hx, hb, hml, hown, hts⟩ (c_call_2 l G a (yR (yR X T1) T3) (nI k) 0 0 (rvE (cd "java/lang/IllegalArgumentException") (cd "java/lang/IllegalArgumentException") (h_X7_about M (nI k))) (yR (yR X T1) T3) hst (al_about (nI k) ((RX.yR T1).yR T3))) (va_cwS 5 hts gL_alike_L_call rfl rfl rfl (by decide +kernel) ⟨(Nat.le_of_ble_eq_true rfl), (Nat.le_of_ble_eq_true rfl)⟩) hP hO (thr_at hTh hS (fun q h => Or.inl h)) hN rfl hl.1 (Nat.le_of_ble_eq_true rfl) dL_alike_108 ⟨(by show 4 + 8 * k + 1 + 1 + 1 ≤ 644; omega), (by show 24 + 48 * k + 6 + 6 + 6 ≤ 3864; omega)⟩) hS (fun q h => Or.inl h) hQ (Or.inl hd) (fun H locs hP hQ hS => ?_)
          refine lv_aload_n hx hb dL_alike_111 rfl (lv_at hl 1 rfl) ?_
          refine lv_iconst (v := 2) hx hb dL_alike_112 (by decide) ?_
          refine lv_iload hx hb dL_alike_113 (lv_at hl 4 rfl) ?_
          refine lv_iconst (v := 0) hx hb dL_alike_115 (by decide) ?_
          refine lv_iconst (v := 0) hx hb dL_alike_116 (by decide) ?_
          refine cl_o2 (rSP (A := blk b (b + 170)) (As := [.ref b, .int 2, .int (nI k), .int 0, .int 0]) (rest := [.int (rvE (cd "java/lang/IllegalArgumentException") (cd "java/lang/IllegalArgumentException") (h_X7_about M (nI k)))]) ⟨hx, hb, hml, hown, hts⟩ (c_call_2 l G b (yR (yR Y T2) T4) (nI k) 0 0 (rvE (cd "java/lang/IllegalArgumentException") (cd "java/lang/IllegalArgumentException") (h_X7_about M (nI k))) (yR (yR Y T2) T4) hst (al_about (nI k) ((RY.yR T2).yR T4))) (va_cwS 5 hts gL_alike_L_call rfl rfl rfl (by decide +kernel) ⟨(Nat.le_of_ble_eq_true rfl), (Nat.le_of_ble_eq_true rfl)⟩) hQ hO (thr_at hTh hS (fun q h => Or.inr h)) hN rfl hl.1 (Nat.le_of_ble_eq_true rfl) dL_alike_117 ⟨(by show 4 + 8 * k + 1 + 1 + 1 + 1 ≤ 644; omega), (by show 24 + 48 * k + 6 + 6 + 6 + 6 ≤ 3864; omega)⟩) hS (fun q h => Or.inr h) hP (Or.inr hd) (fun H locs hQ hP hS => ?_)
          refine lv_icmp_ne (tgt := 177) hx hb dL_alike_120 (by decide) (fun c5 => absurd rfl c5) (fun _ => ?_)
          refine lv_aload_n hx hb dL_alike_123 rfl (lv_at hl 0 rfl) ?_
          refine lv_iconst (v := 3) hx hb dL_alike_124 (by decide) ?_
          refine lv_iload hx hb dL_alike_125 (lv_at hl 4 rfl) ?_
          refine lv_iload_n hx hb dL_alike_127 rfl (lv_at hl 2 rfl) ?_
          refine lv_bipush (v := 7) hx hb dL_alike_128 (by decide) ?_
          refine irem_n (a := n) (b := 7) hx hb ⟨by omega, by decide, by decide⟩ dL_alike_130 ?_
          refine lv_iconst (v := 0) hx hb dL_alike_131 (by decide) ?_
          refine cl_o2 (rSP (A := blk a (a + 170)) (As := [.ref a, .int 3, .int (nI k), .int (nI (n % 7)), .int 0]) (rest := []) ⟨hx, hb, hml, hown, hts⟩ (c_call_3 l G a (yR (yR X T1) T3) (nI k) (nI (n % 7)) 0 (rvE (cd "java/lang/IndexOutOfBoundsException") (cd "java/lang/IllegalArgumentException") (h_X7_carOf M (nI k) (nI (n % 7)))) (yR (yR X T1) T3) hst (al_carOf (nI k) (nI (n % 7)) ((RX.yR T1).yR T3))) (va_cwS 5 hts gL_alike_L_call rfl rfl rfl (by decide +kernel) ⟨(Nat.le_of_ble_eq_true rfl), (Nat.le_of_ble_eq_true rfl)⟩) hP hO (thr_at hTh hS (fun q h => Or.inl h)) hN rfl hl.1 (Nat.le_of_ble_eq_true rfl) dL_alike_132 ⟨(by show 4 + 8 * k + 1 + 1 + 1 + 1 + 1 ≤ 644; omega), (by show 24 + 48 * k + 6 + 6 + 6 + 6 + 6 ≤ 3864; omega)⟩) hS (fun q h => Or.inl h) hQ (Or.inl hd) (fun H locs hP hQ hS => ?_)
          refine lv_aload_n hx hb dL_alike_135 rfl (lv_at hl 1 rfl) ?_
          refine lv_iconst (v := 3) hx hb dL_alike_136 (by decide) ?_
          refine lv_iload hx hb dL_alike_137 (lv_at hl 4 rfl) ?_
          refine lv_iload_n hx hb dL_alike_139 rfl (lv_at hl 2 rfl) ?_
          refine lv_bipush (v := 7) hx hb dL_alike_140 (by decide) ?_
          refine irem_n (a := n) (b := 7) hx hb ⟨by omega, by decide, by decide⟩ dL_alike_142 ?_
          refine lv_iconst (v := 0) hx hb dL_alike_143 (by decide) ?_
          refine cl_o2 (rSP (A := blk b (b + 170)) (As := [.ref b, .int 3, .int (nI k), .int (nI (n % 7)), .int 0]) (rest := [.int (rvE (cd "java/lang/IndexOutOfBoundsException") (cd "java/lang/IllegalArgumentException") (h_X7_carOf M (nI k) (nI (n % 7))))]) ⟨hx, hb, hml, hown, hts⟩ (c_call_3 l G b (yR (yR Y T2) T4) (nI k) (nI (n % 7)) 0 (rvE (cd "java/lang/IndexOutOfBoundsException") (cd "java/lang/IllegalArgumentException") (h_X7_carOf M (nI k) (nI (n % 7)))) (yR (yR Y T2) T4) hst (al_carOf (nI k) (nI (n % 7)) ((RY.yR T2).yR T4))) (va_cwS 5 hts gL_alike_L_call rfl rfl rfl (by decide +kernel) ⟨(Nat.le_of_ble_eq_true rfl), (Nat.le_of_ble_eq_true rfl)⟩) hQ hO (thr_at hTh hS (fun q h => Or.inr h)) hN rfl hl.1 (Nat.le_of_ble_eq_true rfl) dL_alike_144 ⟨(by show 4 + 8 * k + 1 + 1 + 1 + 1 + 1 + 1 ≤ 644; omega), (by show 24 + 48 * k + 6 + 6 + 6 + 6 + 6 + 6 ≤ 3864; omega)⟩) hS (fun q h => Or.inr h) hP (Or.inr hd) (fun H locs hQ hP hS => ?_)
          refine lv_icmp_ne (tgt := 177) hx hb dL_alike_147 (by decide) (fun c6 => absurd rfl c6) (fun _ => ?_)
          refine lv_aload_n hx hb dL_alike_150 rfl (lv_at hl 0 rfl) ?_
          refine lv_bipush (v := 15) hx hb dL_alike_151 (by decide) ?_
          refine lv_iload hx hb dL_alike_153 (lv_at hl 4 rfl) ?_
          refine lv_iconst (v := 0) hx hb dL_alike_155 (by decide) ?_
          refine lv_iconst (v := 0) hx hb dL_alike_156 (by decide) ?_
          refine cl_o2 (rSP (A := blk a (a + 170)) (As := [.ref a, .int 15, .int (nI k), .int 0, .int 0]) (rest := []) ⟨hx, hb, hml, hown, hts⟩ (c_call_15 l G a (yR (yR X T1) T3) (nI k) 0 0 (rvE (cd "java/lang/IllegalArgumentException") (cd "java/lang/IllegalArgumentException") (h_X7_place M (nI k))) (yR (yR X T1) T3) hst (al_place (nI k) ((RX.yR T1).yR T3))) (va_cwS 5 hts gL_alike_L_call rfl rfl rfl (by decide +kernel) ⟨(Nat.le_of_ble_eq_true rfl), (Nat.le_of_ble_eq_true rfl)⟩) hP hO (thr_at hTh hS (fun q h => Or.inl h)) hN rfl hl.1 (Nat.le_of_ble_eq_true rfl) dL_alike_157 ⟨(by show 4 + 8 * k + 1 + 1 + 1 + 1 + 1 + 1 + 1 ≤ 644; omega), (by show 24 + 48 * k + 6 + 6 + 6 + 6 + 6 + 6 + 6 ≤ 3864; omega)⟩) hS (fun q h => Or.inl h) hQ (Or.inl hd) (fun H locs hP hQ hS => ?_)
          refine lv_aload_n hx hb dL_alike_160 rfl (lv_at hl 1 rfl) ?_
          refine lv_bipush (v := 15) hx hb dL_alike_161 (by decide) ?_
          refine lv_iload hx hb dL_alike_163 (lv_at hl 4 rfl) ?_
          refine lv_iconst (v := 0) hx hb dL_alike_165 (by decide) ?_
          refine lv_iconst (v := 0) hx hb dL_alike_166 (by decide) ?_
          refine cl_o2 (rSP (A := blk b (b + 170)) (As := [.ref b, .int 15, .int (nI k), .int 0, .int 0]) (rest := [.int (rvE (cd "java/lang/IllegalArgumentException") (cd "java/lang/IllegalArgumentException") (h_X7_place M (nI k)))]) ⟨hx, hb, hml, hown, hts⟩ (c_call_15 l G b (yR (yR Y T2) T4) (nI k) 0 0 (rvE (cd "java/lang/IllegalArgumentException") (cd "java/lang/IllegalArgumentException") (h_X7_place M (nI k))) (yR (yR Y T2) T4) hst (al_place (nI k) ((RY.yR T2).yR T4))) (va_cwS 5 hts gL_alike_L_call rfl rfl rfl (by decide +kernel) ⟨(Nat.le_of_ble_eq_true rfl), (Nat.le_of_ble_eq_true rfl)⟩) hQ hO (thr_at hTh hS (fun q h => Or.inr h)) hN rfl hl.1 (Nat.le_of_ble_eq_true rfl) dL_alike_167 ⟨(by show 4 + 8 * k + 1 + 1 + 1 + 1 + 1 + 1 + 1 + 1 ≤ 644; omega), (by show 24 + 48 * k + 6 + 6 + 6 + 6 + 6 + 6 + 6 + 6 ≤ 3864; omega)⟩) hS (fun q h => Or.inr h) hP (Or.inr hd) (fun H locs hQ hP hS => ?_)
          refine lv_icmp_ne (tgt := 177) hx hb dL_alike_170 (by decide) (fun c7 => absurd rfl c7) (fun _ => ?_)
          refine lv_iconst (v := 1) hx hb dL_alike_173 (by decide) ?_
          refine lv_goto (tgt := 178) hx hb dL_alike_174 (by decide) ?_
          refine lv_istore_n (lv' := [(3, .int 1), (0, .ref a), (1, .ref b), (2, .int (nI n)), (4, .int (nI k))]) hx hb dL_alike_178 rfl hl (by decide) rfl (fun ls hl => ?_)
          refine lv_iinc (v := nI (k + 1)) (lv' := [(4, .int (nI (k + 1))), (3, .int 1), (0, .ref a), (1, .ref b), (2, .int (nI n))]) hx hb dL_alike_179 hl (k := 4) rfl (nI_1 _) (by decide) rfl (fun ls hl => ?_)
          refine lv_goto (tgt := 63) hx hb dL_alike_182 (by decide) ?_
          refine W.widen (k := 4 + 8 * (k + 1)) (n := 24 + 48 * (k + 1)) (by omega) (by omega) ?_
          exact ih63 (k + 1) (by omega) (by omega) _ _ _ hP hQ hS (lv_sub hl [2, 3, 4, 1, 0] rfl)
  refine lv_aload_n hx hb dL_alike_0 rfl (lv_at hl 0 rfl) ?_
  refine lv_iload_n hx hb dL_alike_1 rfl (lv_at hl 2 rfl) ?_
  refine lv_i2l (v := (nI n).toInt64) hx hb dL_alike_2 rfl ?_
  refine lv_iconst (v := 1) hx hb dL_alike_3 (by decide) ?_
  refine lv_iload_n hx hb dL_alike_4 rfl (lv_at hl 2 rfl) ?_
  refine lv_bipush (v := 30) hx hb dL_alike_5 (by decide) ?_
  refine irem_n (a := n) (b := 30) hx hb ⟨by omega, by decide, by decide⟩ dL_alike_7 ?_
  refine iadd_n (a := 1) (b := n % 30) hx hb dL_alike_8 ?_
  refine cl_w2 (xSW (A := blk a (a + 170)) (As := [.ref a, .long ((nI n).toInt64), .int (nI (1 + (n % 30)))]) (rest := []) ⟨hx, hb, hml, hown, hts⟩ (w_L_doSimulate l G a X ((nI n).toInt64) (nI (1 + (n % 30))) (rvE (cd "java/lang/IllegalArgumentException") (cd "java/lang/IllegalArgumentException") (h_X7_simulate M ((nI n).toInt64) (nI (1 + (n % 30))))) (yR X T1) hst eT1) (vx_cwSW 3 hts gL_alike_L_doSimulate rfl rfl rfl (by decide +kernel) ⟨(Nat.le_of_ble_eq_true rfl), (Nat.le_of_ble_eq_true rfl)⟩) hP hO (thr_at hTh hS (fun q h => Or.inl h)) hN rfl hl.1 (Nat.le_of_ble_eq_true rfl) dL_alike_9 ⟨(Nat.le_of_ble_eq_true rfl), (Nat.le_of_ble_eq_true rfl)⟩) hS (fun q h => Or.inl h) hQ (Or.inl hd) (fun H locs hP hQ hS => ?_)
  refine lv_aload_n hx hb dL_alike_12 rfl (lv_at hl 1 rfl) ?_
  refine lv_iload_n hx hb dL_alike_13 rfl (lv_at hl 2 rfl) ?_
  refine lv_i2l (v := (nI n).toInt64) hx hb dL_alike_14 rfl ?_
  refine lv_iconst (v := 1) hx hb dL_alike_15 (by decide) ?_
  refine lv_iload_n hx hb dL_alike_16 rfl (lv_at hl 2 rfl) ?_
  refine lv_bipush (v := 30) hx hb dL_alike_17 (by decide) ?_
  refine irem_n (a := n) (b := 30) hx hb ⟨by omega, by decide, by decide⟩ dL_alike_19 ?_
  refine iadd_n (a := 1) (b := n % 30) hx hb dL_alike_20 ?_
  refine cl_w2 (xSW (A := blk b (b + 170)) (As := [.ref b, .long ((nI n).toInt64), .int (nI (1 + (n % 30)))]) (rest := [.int (rvE (cd "java/lang/IllegalArgumentException") (cd "java/lang/IllegalArgumentException") (h_X7_simulate M ((nI n).toInt64) (nI (1 + (n % 30)))))]) ⟨hx, hb, hml, hown, hts⟩ (w_L_doSimulate l G b Y ((nI n).toInt64) (nI (1 + (n % 30))) (rvE (cd "java/lang/IllegalArgumentException") (cd "java/lang/IllegalArgumentException") (h_X7_simulate M ((nI n).toInt64) (nI (1 + (n % 30))))) (yR Y T2) hst eT2) (vx_cwSW 3 hts gL_alike_L_doSimulate rfl rfl rfl (by decide +kernel) ⟨(Nat.le_of_ble_eq_true rfl), (Nat.le_of_ble_eq_true rfl)⟩) hQ hO (thr_at hTh hS (fun q h => Or.inr h)) hN rfl hl.1 (Nat.le_of_ble_eq_true rfl) dL_alike_21 ⟨(Nat.le_of_ble_eq_true rfl), (Nat.le_of_ble_eq_true rfl)⟩) hS (fun q h => Or.inr h) hP (Or.inr hd) (fun H locs hQ hP hS => ?_)
  refine lv_icmp_ne (tgt := 58) hx hb dL_alike_24 (by decide) (fun c8 => absurd rfl c8) (fun _ => ?_)
  refine lv_aload_n hx hb dL_alike_27 rfl (lv_at hl 0 rfl) ?_
  refine lv_iconst (v := 2) hx hb dL_alike_28 (by decide) ?_
  refine lv_iload_n hx hb dL_alike_29 rfl (lv_at hl 2 rfl) ?_
  refine lv_bipush (v := 7) hx hb dL_alike_30 (by decide) ?_
  refine irem_n (a := n) (b := 7) hx hb ⟨by omega, by decide, by decide⟩ dL_alike_32 ?_
  refine iadd_n (a := 2) (b := n % 7) hx hb dL_alike_33 ?_
  refine lv_iload_n hx hb dL_alike_34 rfl (lv_at hl 2 rfl) ?_
  refine lv_i2l (v := (nI n).toInt64) hx hb dL_alike_35 rfl ?_
  refine cl_w2 (xSW (A := blk a (a + 170)) (As := [.ref a, .int (nI (2 + (n % 7))), .long ((nI n).toInt64)]) (rest := []) ⟨hx, hb, hml, hown, hts⟩ (w_L_jams l G a (yR X T1) (nI (2 + (n % 7))) ((nI n).toInt64) (rvE (cd "java/lang/IllegalArgumentException") (cd "java/lang/IllegalArgumentException") (h_X7_jam M (nI (2 + (n % 7))) ((nI n).toInt64))) (yR (yR X T1) T3) hst eT3) (vx_cwSW 3 hts gL_alike_L_jams rfl rfl rfl (by decide +kernel) ⟨(Nat.le_of_ble_eq_true rfl), (Nat.le_of_ble_eq_true rfl)⟩) hP hO (thr_at hTh hS (fun q h => Or.inl h)) hN rfl hl.1 (Nat.le_of_ble_eq_true rfl) dL_alike_36 ⟨(Nat.le_of_ble_eq_true rfl), (Nat.le_of_ble_eq_true rfl)⟩) hS (fun q h => Or.inl h) hQ (Or.inl hd) (fun H locs hP hQ hS => ?_)
  refine lv_aload_n hx hb dL_alike_39 rfl (lv_at hl 1 rfl) ?_
  refine lv_iconst (v := 2) hx hb dL_alike_40 (by decide) ?_
  refine lv_iload_n hx hb dL_alike_41 rfl (lv_at hl 2 rfl) ?_
  refine lv_bipush (v := 7) hx hb dL_alike_42 (by decide) ?_
  refine irem_n (a := n) (b := 7) hx hb ⟨by omega, by decide, by decide⟩ dL_alike_44 ?_
  refine iadd_n (a := 2) (b := n % 7) hx hb dL_alike_45 ?_
  refine lv_iload_n hx hb dL_alike_46 rfl (lv_at hl 2 rfl) ?_
  refine lv_i2l (v := (nI n).toInt64) hx hb dL_alike_47 rfl ?_
  refine cl_w2 (xSW (A := blk b (b + 170)) (As := [.ref b, .int (nI (2 + (n % 7))), .long ((nI n).toInt64)]) (rest := [.int (rvE (cd "java/lang/IllegalArgumentException") (cd "java/lang/IllegalArgumentException") (h_X7_jam M (nI (2 + (n % 7))) ((nI n).toInt64)))]) ⟨hx, hb, hml, hown, hts⟩ (w_L_jams l G b (yR Y T2) (nI (2 + (n % 7))) ((nI n).toInt64) (rvE (cd "java/lang/IllegalArgumentException") (cd "java/lang/IllegalArgumentException") (h_X7_jam M (nI (2 + (n % 7))) ((nI n).toInt64))) (yR (yR Y T2) T4) hst eT4) (vx_cwSW 3 hts gL_alike_L_jams rfl rfl rfl (by decide +kernel) ⟨(Nat.le_of_ble_eq_true rfl), (Nat.le_of_ble_eq_true rfl)⟩) hQ hO (thr_at hTh hS (fun q h => Or.inr h)) hN rfl hl.1 (Nat.le_of_ble_eq_true rfl) dL_alike_48 ⟨(Nat.le_of_ble_eq_true rfl), (Nat.le_of_ble_eq_true rfl)⟩) hS (fun q h => Or.inr h) hP (Or.inr hd) (fun H locs hQ hP hS => ?_)
  refine lv_icmp_ne (tgt := 58) hx hb dL_alike_51 (by decide) (fun c9 => absurd rfl c9) (fun _ => ?_)
  refine lv_iconst (v := 1) hx hb dL_alike_54 (by decide) ?_
  refine lv_goto (tgt := 59) hx hb dL_alike_55 (by decide) ?_
  refine lv_istore_n (lv' := [(3, .int 1), (0, .ref a), (1, .ref b), (2, .int (nI n))]) hx hb dL_alike_59 rfl hl (by decide) rfl (fun ls hl => ?_)
  refine lv_iconst (v := 0) hx hb dL_alike_60 (by decide) ?_
  refine lv_istore (lv' := [(4, .int 0), (3, .int 1), (0, .ref a), (1, .ref b), (2, .int (nI n))]) hx hb dL_alike_61 hl (by decide) rfl (fun ls hl => ?_)
  refine W.widen (k := 4 + 8 * 0) (n := 24 + 48 * 0) (Nat.le_of_ble_eq_true rfl) (Nat.le_of_ble_eq_true rfl) ?_
  exact cut63 (80 + 1) 0 (by omega) (by omega) _ _ _ hP hQ hS (lv_sub hl [2, 3, 4, 1, 0] rfl)
