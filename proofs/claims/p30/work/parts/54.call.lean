set_option maxHeartbeats 4000000 in
set_option maxRecDepth 100000 in
theorem c_call0_0 (l : Launch) (G : GG) (b : Nat) (X : Cx) (u v w : Int32) (hst : l.stackTraces = false) : Met l yL_call wsL_call ({ frames := 11, cells := 1, slots := 6, locals := 186 }) (PcN G (blk b (b + 170)) [.ref b, .int 0, .int u, .int v, .int w] (Cb G b X)) (QM (some (.int (pv (h_X6_append X u) X).1)) (Cb G b (pv (h_X6_append X u) X).2) (blk b (b + 170))) 1 6 (blk b (b + 170)) := by
  refine metN (cc := cL_call) (maxL := 5) (ret := (some .int)) (by decide) rfl ?_
  intro p e s m below meth cd hx hb hr hml hown hts hlocks hP hO hTh hN
  have hS : va_S (blk b (b + 170)) s.heap s.heap [] := va_S.rf
  have hl := lv_entry ([.ref b, .int 0, .int u, .int v, .int w]) (n := 5) (Nat.le_of_ble_eq_true rfl)
  rw [lg_entry_eq]
  generalize (lg_sl ([.ref b, .int 0, .int u, .int v, .int w]) ++ List.replicate (5 - (lg_sl ([.ref b, .int 0, .int u, .int v, .int w])).length) Slot.unset).toArray = ls at hl ⊢
  have hl : lv_has ls 5 [(0, .ref b), (1, .int 0), (2, .int u), (3, .int v), (4, .int w)] := hl
  refine lv_iload_n hx hb dL_call_0 rfl (lv_at hl 1 rfl) ?_
  refine lv_tableIn (off := 95) (tgt := 96) hx hb dL_call_1 (by decide) (by decide) (by decide +kernel) (by decide) ?_
  refine lv_aload_n hx hb dL_call_96 rfl (lv_at hl 0 rfl) ?_
  refine lv_iload_n hx hb dL_call_97 rfl (lv_at hl 2 rfl) ?_
  refine cl_mx (xSW (A := (blk b (b + 170))) (As := [.ref b, .int u]) (rest := []) ⟨hx, hb, hml, hown, hts⟩ (c_L_tryAppend l G b X u hst) (vx_cwSW 2 hts gL_call_L_tryAppend rfl rfl rfl (by decide +kernel) ⟨Nat.le_of_ble_eq_true rfl, Nat.le_of_ble_eq_true rfl⟩) hP hO (fun U hU hW => hTh.warm hW hU) hN rfl hl.1 (Nat.le_of_ble_eq_true rfl) dL_call_98 ⟨Nat.le_of_ble_eq_true rfl, Nat.le_of_ble_eq_true rfl⟩) hS (fun q h => h) (fun H locs hP1 hz hk hS => ?_)
  exact W.iret hx hb hr (fun t ht hW => ⟨rfl, by rw [ht]; exact hP1, hS.F ht⟩) hS.2.2 dL_call_101

theorem c_call_0 (l : Launch) (G : GG) (b : Nat) (X : Cx) (u v w : Int32) (r : Int32) (X1 : Cx) (hst : l.stackTraces = false) (hq : pv (h_X6_append X u) X = (r, X1)) : Met l yL_call wsL_call ({ frames := 11, cells := 1, slots := 6, locals := 186 }) (PcN G (blk b (b + 170)) [.ref b, .int 0, .int u, .int v, .int w] (Cb G b X)) (QM (some (.int r)) (Cb G b X1) (blk b (b + 170))) 1 6 (blk b (b + 170)) := by
  have h := c_call0_0 l G b X u v w hst
  rw [hq] at h
  exact h

set_option maxHeartbeats 4000000 in
set_option maxRecDepth 100000 in
theorem c_call0_1 (l : Launch) (G : GG) (b : Nat) (X : Cx) (u v w : Int32) (hst : l.stackTraces = false) : Met l yL_call wsL_call ({ frames := 11, cells := 1, slots := 6, locals := 186 }) (PcN G (blk b (b + 170)) [.ref b, .int 1, .int u, .int v, .int w] (Cb G b X)) (QM (some (.int (pv (h_X6_load X ) X).1)) (Cb G b (pv (h_X6_load X ) X).2) (blk b (b + 170))) 1 6 (blk b (b + 170)) := by
  refine metN (cc := cL_call) (maxL := 5) (ret := (some .int)) (by decide) rfl ?_
  intro p e s m below meth cd hx hb hr hml hown hts hlocks hP hO hTh hN
  have hS : va_S (blk b (b + 170)) s.heap s.heap [] := va_S.rf
  have hl := lv_entry ([.ref b, .int 1, .int u, .int v, .int w]) (n := 5) (Nat.le_of_ble_eq_true rfl)
  rw [lg_entry_eq]
  generalize (lg_sl ([.ref b, .int 1, .int u, .int v, .int w]) ++ List.replicate (5 - (lg_sl ([.ref b, .int 1, .int u, .int v, .int w])).length) Slot.unset).toArray = ls at hl ⊢
  have hl : lv_has ls 5 [(0, .ref b), (1, .int 1), (2, .int u), (3, .int v), (4, .int w)] := hl
  refine lv_iload_n hx hb dL_call_0 rfl (lv_at hl 1 rfl) ?_
  refine lv_tableIn (off := 101) (tgt := 102) hx hb dL_call_1 (by decide) (by decide) (by decide +kernel) (by decide) ?_
  refine lv_aload_n hx hb dL_call_102 rfl (lv_at hl 0 rfl) ?_
  refine cl_mx (xSW (A := (blk b (b + 170))) (As := [.ref b]) (rest := []) ⟨hx, hb, hml, hown, hts⟩ (c_L_tryLoad l G b X hst) (vx_cwSW 1 hts gL_call_L_tryLoad rfl rfl rfl (by decide +kernel) ⟨Nat.le_of_ble_eq_true rfl, Nat.le_of_ble_eq_true rfl⟩) hP hO (fun U hU hW => hTh.warm hW hU) hN rfl hl.1 (Nat.le_of_ble_eq_true rfl) dL_call_103 ⟨Nat.le_of_ble_eq_true rfl, Nat.le_of_ble_eq_true rfl⟩) hS (fun q h => h) (fun H locs hP1 hz hk hS => ?_)
  exact W.iret hx hb hr (fun t ht hW => ⟨rfl, by rw [ht]; exact hP1, hS.F ht⟩) hS.2.2 dL_call_106

theorem c_call_1 (l : Launch) (G : GG) (b : Nat) (X : Cx) (u v w : Int32) (r : Int32) (X1 : Cx) (hst : l.stackTraces = false) (hq : pv (h_X6_load X ) X = (r, X1)) : Met l yL_call wsL_call ({ frames := 11, cells := 1, slots := 6, locals := 186 }) (PcN G (blk b (b + 170)) [.ref b, .int 1, .int u, .int v, .int w] (Cb G b X)) (QM (some (.int r)) (Cb G b X1) (blk b (b + 170))) 1 6 (blk b (b + 170)) := by
  have h := c_call0_1 l G b X u v w hst
  rw [hq] at h
  exact h

set_option maxHeartbeats 4000000 in
set_option maxRecDepth 100000 in
theorem c_call0_2 (l : Launch) (G : GG) (b : Nat) (X : Cx) (u v w : Int32) (hst : l.stackTraces = false) : Met l yL_call wsL_call ({ frames := 11, cells := 1, slots := 6, locals := 186 }) (PcN G (blk b (b + 170)) [.ref b, .int 2, .int u, .int v, .int w] (Cb G b X)) (QM (some (.int (pv (h_X6_about X u) X).1)) (Cb G b (pv (h_X6_about X u) X).2) (blk b (b + 170))) 1 6 (blk b (b + 170)) := by
  refine metN (cc := cL_call) (maxL := 5) (ret := (some .int)) (by decide) rfl ?_
  intro p e s m below meth cd hx hb hr hml hown hts hlocks hP hO hTh hN
  have hS : va_S (blk b (b + 170)) s.heap s.heap [] := va_S.rf
  have hl := lv_entry ([.ref b, .int 2, .int u, .int v, .int w]) (n := 5) (Nat.le_of_ble_eq_true rfl)
  rw [lg_entry_eq]
  generalize (lg_sl ([.ref b, .int 2, .int u, .int v, .int w]) ++ List.replicate (5 - (lg_sl ([.ref b, .int 2, .int u, .int v, .int w])).length) Slot.unset).toArray = ls at hl ⊢
  have hl : lv_has ls 5 [(0, .ref b), (1, .int 2), (2, .int u), (3, .int v), (4, .int w)] := hl
  refine lv_iload_n hx hb dL_call_0 rfl (lv_at hl 1 rfl) ?_
  refine lv_tableIn (off := 106) (tgt := 107) hx hb dL_call_1 (by decide) (by decide) (by decide +kernel) (by decide) ?_
  refine lv_aload_n hx hb dL_call_107 rfl (lv_at hl 0 rfl) ?_
  refine lv_iload_n hx hb dL_call_108 rfl (lv_at hl 2 rfl) ?_
  refine cl_mx (xSW (A := (blk b (b + 170))) (As := [.ref b, .int u]) (rest := []) ⟨hx, hb, hml, hown, hts⟩ (c_L_tryAbout l G b X u hst) (vx_cwSW 2 hts gL_call_L_tryAbout rfl rfl rfl (by decide +kernel) ⟨Nat.le_of_ble_eq_true rfl, Nat.le_of_ble_eq_true rfl⟩) hP hO (fun U hU hW => hTh.warm hW hU) hN rfl hl.1 (Nat.le_of_ble_eq_true rfl) dL_call_109 ⟨Nat.le_of_ble_eq_true rfl, Nat.le_of_ble_eq_true rfl⟩) hS (fun q h => h) (fun H locs hP1 hz hk hS => ?_)
  exact W.iret hx hb hr (fun t ht hW => ⟨rfl, by rw [ht]; exact hP1, hS.F ht⟩) hS.2.2 dL_call_112

theorem c_call_2 (l : Launch) (G : GG) (b : Nat) (X : Cx) (u v w : Int32) (r : Int32) (X1 : Cx) (hst : l.stackTraces = false) (hq : pv (h_X6_about X u) X = (r, X1)) : Met l yL_call wsL_call ({ frames := 11, cells := 1, slots := 6, locals := 186 }) (PcN G (blk b (b + 170)) [.ref b, .int 2, .int u, .int v, .int w] (Cb G b X)) (QM (some (.int r)) (Cb G b X1) (blk b (b + 170))) 1 6 (blk b (b + 170)) := by
  have h := c_call0_2 l G b X u v w hst
  rw [hq] at h
  exact h

set_option maxHeartbeats 4000000 in
set_option maxRecDepth 100000 in
theorem c_call0_3 (l : Launch) (G : GG) (b : Nat) (X : Cx) (u v w : Int32) (hst : l.stackTraces = false) : Met l yL_call wsL_call ({ frames := 11, cells := 1, slots := 6, locals := 186 }) (PcN G (blk b (b + 170)) [.ref b, .int 3, .int u, .int v, .int w] (Cb G b X)) (QM (some (.int (pv (h_X6_carOf X u v) X).1)) (Cb G b (pv (h_X6_carOf X u v) X).2) (blk b (b + 170))) 1 6 (blk b (b + 170)) := by
  refine metN (cc := cL_call) (maxL := 5) (ret := (some .int)) (by decide) rfl ?_
  intro p e s m below meth cd hx hb hr hml hown hts hlocks hP hO hTh hN
  have hS : va_S (blk b (b + 170)) s.heap s.heap [] := va_S.rf
  have hl := lv_entry ([.ref b, .int 3, .int u, .int v, .int w]) (n := 5) (Nat.le_of_ble_eq_true rfl)
  rw [lg_entry_eq]
  generalize (lg_sl ([.ref b, .int 3, .int u, .int v, .int w]) ++ List.replicate (5 - (lg_sl ([.ref b, .int 3, .int u, .int v, .int w])).length) Slot.unset).toArray = ls at hl ⊢
  have hl : lv_has ls 5 [(0, .ref b), (1, .int 3), (2, .int u), (3, .int v), (4, .int w)] := hl
  refine lv_iload_n hx hb dL_call_0 rfl (lv_at hl 1 rfl) ?_
  refine lv_tableIn (off := 112) (tgt := 113) hx hb dL_call_1 (by decide) (by decide) (by decide +kernel) (by decide) ?_
  refine lv_aload_n hx hb dL_call_113 rfl (lv_at hl 0 rfl) ?_
  refine lv_iload_n hx hb dL_call_114 rfl (lv_at hl 2 rfl) ?_
  refine lv_iload_n hx hb dL_call_115 rfl (lv_at hl 3 rfl) ?_
  refine cl_mx (xSW (A := (blk b (b + 170))) (As := [.ref b, .int u, .int v]) (rest := []) ⟨hx, hb, hml, hown, hts⟩ (c_L_tryCar l G b X u v hst) (vx_cwSW 3 hts gL_call_L_tryCar rfl rfl rfl (by decide +kernel) ⟨Nat.le_of_ble_eq_true rfl, Nat.le_of_ble_eq_true rfl⟩) hP hO (fun U hU hW => hTh.warm hW hU) hN rfl hl.1 (Nat.le_of_ble_eq_true rfl) dL_call_116 ⟨Nat.le_of_ble_eq_true rfl, Nat.le_of_ble_eq_true rfl⟩) hS (fun q h => h) (fun H locs hP1 hz hk hS => ?_)
  exact W.iret hx hb hr (fun t ht hW => ⟨rfl, by rw [ht]; exact hP1, hS.F ht⟩) hS.2.2 dL_call_119

theorem c_call_3 (l : Launch) (G : GG) (b : Nat) (X : Cx) (u v w : Int32) (r : Int32) (X1 : Cx) (hst : l.stackTraces = false) (hq : pv (h_X6_carOf X u v) X = (r, X1)) : Met l yL_call wsL_call ({ frames := 11, cells := 1, slots := 6, locals := 186 }) (PcN G (blk b (b + 170)) [.ref b, .int 3, .int u, .int v, .int w] (Cb G b X)) (QM (some (.int r)) (Cb G b X1) (blk b (b + 170))) 1 6 (blk b (b + 170)) := by
  have h := c_call0_3 l G b X u v w hst
  rw [hq] at h
  exact h

set_option maxHeartbeats 4000000 in
set_option maxRecDepth 100000 in
theorem c_call0_4 (l : Launch) (G : GG) (b : Nat) (X : Cx) (u v w : Int32) (hst : l.stackTraces = false) : Met l yL_call wsL_call ({ frames := 11, cells := 1, slots := 6, locals := 186 }) (PcN G (blk b (b + 170)) [.ref b, .int 4, .int u, .int v, .int w] (Cb G b X)) (QM (some (.int (pv (h_X6_at X u) X).1)) (Cb G b (pv (h_X6_at X u) X).2) (blk b (b + 170))) 1 6 (blk b (b + 170)) := by
  refine metN (cc := cL_call) (maxL := 5) (ret := (some .int)) (by decide) rfl ?_
  intro p e s m below meth cd hx hb hr hml hown hts hlocks hP hO hTh hN
  have hS : va_S (blk b (b + 170)) s.heap s.heap [] := va_S.rf
  have hl := lv_entry ([.ref b, .int 4, .int u, .int v, .int w]) (n := 5) (Nat.le_of_ble_eq_true rfl)
  rw [lg_entry_eq]
  generalize (lg_sl ([.ref b, .int 4, .int u, .int v, .int w]) ++ List.replicate (5 - (lg_sl ([.ref b, .int 4, .int u, .int v, .int w])).length) Slot.unset).toArray = ls at hl ⊢
  have hl : lv_has ls 5 [(0, .ref b), (1, .int 4), (2, .int u), (3, .int v), (4, .int w)] := hl
  refine lv_iload_n hx hb dL_call_0 rfl (lv_at hl 1 rfl) ?_
  refine lv_tableIn (off := 119) (tgt := 120) hx hb dL_call_1 (by decide) (by decide) (by decide +kernel) (by decide) ?_
  refine lv_aload_n hx hb dL_call_120 rfl (lv_at hl 0 rfl) ?_
  refine lv_iload_n hx hb dL_call_121 rfl (lv_at hl 2 rfl) ?_
  refine cl_mx (xSW (A := (blk b (b + 170))) (As := [.ref b, .int u]) (rest := []) ⟨hx, hb, hml, hown, hts⟩ (c_L_tryAt l G b X u hst) (vx_cwSW 2 hts gL_call_L_tryAt rfl rfl rfl (by decide +kernel) ⟨Nat.le_of_ble_eq_true rfl, Nat.le_of_ble_eq_true rfl⟩) hP hO (fun U hU hW => hTh.warm hW hU) hN rfl hl.1 (Nat.le_of_ble_eq_true rfl) dL_call_122 ⟨Nat.le_of_ble_eq_true rfl, Nat.le_of_ble_eq_true rfl⟩) hS (fun q h => h) (fun H locs hP1 hz hk hS => ?_)
  exact W.iret hx hb hr (fun t ht hW => ⟨rfl, by rw [ht]; exact hP1, hS.F ht⟩) hS.2.2 dL_call_125

theorem c_call_4 (l : Launch) (G : GG) (b : Nat) (X : Cx) (u v w : Int32) (r : Int32) (X1 : Cx) (hst : l.stackTraces = false) (hq : pv (h_X6_at X u) X = (r, X1)) : Met l yL_call wsL_call ({ frames := 11, cells := 1, slots := 6, locals := 186 }) (PcN G (blk b (b + 170)) [.ref b, .int 4, .int u, .int v, .int w] (Cb G b X)) (QM (some (.int r)) (Cb G b X1) (blk b (b + 170))) 1 6 (blk b (b + 170)) := by
  have h := c_call0_4 l G b X u v w hst
  rw [hq] at h
  exact h

set_option maxHeartbeats 4000000 in
set_option maxRecDepth 100000 in
theorem c_call0_5 (l : Launch) (G : GG) (b : Nat) (X : Cx) (u v w : Int32) (hst : l.stackTraces = false) : Met l yL_call wsL_call ({ frames := 11, cells := 1, slots := 6, locals := 186 }) (PcN G (blk b (b + 170)) [.ref b, .int 5, .int u, .int v, .int w] (Cb G b X)) (QM (some (.int (pv (h_X6_gap X u v) X).1)) (Cb G b (pv (h_X6_gap X u v) X).2) (blk b (b + 170))) 1 6 (blk b (b + 170)) := by
  refine metN (cc := cL_call) (maxL := 5) (ret := (some .int)) (by decide) rfl ?_
  intro p e s m below meth cd hx hb hr hml hown hts hlocks hP hO hTh hN
  have hS : va_S (blk b (b + 170)) s.heap s.heap [] := va_S.rf
  have hl := lv_entry ([.ref b, .int 5, .int u, .int v, .int w]) (n := 5) (Nat.le_of_ble_eq_true rfl)
  rw [lg_entry_eq]
  generalize (lg_sl ([.ref b, .int 5, .int u, .int v, .int w]) ++ List.replicate (5 - (lg_sl ([.ref b, .int 5, .int u, .int v, .int w])).length) Slot.unset).toArray = ls at hl ⊢
  have hl : lv_has ls 5 [(0, .ref b), (1, .int 5), (2, .int u), (3, .int v), (4, .int w)] := hl
  refine lv_iload_n hx hb dL_call_0 rfl (lv_at hl 1 rfl) ?_
  refine lv_tableIn (off := 125) (tgt := 126) hx hb dL_call_1 (by decide) (by decide) (by decide +kernel) (by decide) ?_
  refine lv_aload_n hx hb dL_call_126 rfl (lv_at hl 0 rfl) ?_
  refine lv_iload_n hx hb dL_call_127 rfl (lv_at hl 2 rfl) ?_
  refine lv_iload_n hx hb dL_call_128 rfl (lv_at hl 3 rfl) ?_
  refine cl_mx (xSW (A := (blk b (b + 170))) (As := [.ref b, .int u, .int v]) (rest := []) ⟨hx, hb, hml, hown, hts⟩ (c_L_tryGap l G b X u v hst) (vx_cwSW 3 hts gL_call_L_tryGap rfl rfl rfl (by decide +kernel) ⟨Nat.le_of_ble_eq_true rfl, Nat.le_of_ble_eq_true rfl⟩) hP hO (fun U hU hW => hTh.warm hW hU) hN rfl hl.1 (Nat.le_of_ble_eq_true rfl) dL_call_129 ⟨Nat.le_of_ble_eq_true rfl, Nat.le_of_ble_eq_true rfl⟩) hS (fun q h => h) (fun H locs hP1 hz hk hS => ?_)
  exact W.iret hx hb hr (fun t ht hW => ⟨rfl, by rw [ht]; exact hP1, hS.F ht⟩) hS.2.2 dL_call_132

theorem c_call_5 (l : Launch) (G : GG) (b : Nat) (X : Cx) (u v w : Int32) (r : Int32) (X1 : Cx) (hst : l.stackTraces = false) (hq : pv (h_X6_gap X u v) X = (r, X1)) : Met l yL_call wsL_call ({ frames := 11, cells := 1, slots := 6, locals := 186 }) (PcN G (blk b (b + 170)) [.ref b, .int 5, .int u, .int v, .int w] (Cb G b X)) (QM (some (.int r)) (Cb G b X1) (blk b (b + 170))) 1 6 (blk b (b + 170)) := by
  have h := c_call0_5 l G b X u v w hst
  rw [hq] at h
  exact h

set_option maxHeartbeats 4000000 in
set_option maxRecDepth 100000 in
theorem c_call0_6 (l : Launch) (G : GG) (b : Nat) (X : Cx) (u v w : Int32) (hst : l.stackTraces = false) : Met l yL_call wsL_call ({ frames := 11, cells := 1, slots := 6, locals := 186 }) (PcN G (blk b (b + 170)) [.ref b, .int 6, .int u, .int v, .int w] (Cb G b X)) (QM (some (.int (pv (h_X6_setting X u) X).1)) (Cb G b (pv (h_X6_setting X u) X).2) (blk b (b + 170))) 1 6 (blk b (b + 170)) := by
  refine metN (cc := cL_call) (maxL := 5) (ret := (some .int)) (by decide) rfl ?_
  intro p e s m below meth cd hx hb hr hml hown hts hlocks hP hO hTh hN
  have hS : va_S (blk b (b + 170)) s.heap s.heap [] := va_S.rf
  have hl := lv_entry ([.ref b, .int 6, .int u, .int v, .int w]) (n := 5) (Nat.le_of_ble_eq_true rfl)
  rw [lg_entry_eq]
  generalize (lg_sl ([.ref b, .int 6, .int u, .int v, .int w]) ++ List.replicate (5 - (lg_sl ([.ref b, .int 6, .int u, .int v, .int w])).length) Slot.unset).toArray = ls at hl ⊢
  have hl : lv_has ls 5 [(0, .ref b), (1, .int 6), (2, .int u), (3, .int v), (4, .int w)] := hl
  refine lv_iload_n hx hb dL_call_0 rfl (lv_at hl 1 rfl) ?_
  refine lv_tableIn (off := 132) (tgt := 133) hx hb dL_call_1 (by decide) (by decide) (by decide +kernel) (by decide) ?_
  refine lv_aload_n hx hb dL_call_133 rfl (lv_at hl 0 rfl) ?_
  refine lv_iload_n hx hb dL_call_134 rfl (lv_at hl 2 rfl) ?_
  refine cl_mx (xSW (A := (blk b (b + 170))) (As := [.ref b, .int u]) (rest := []) ⟨hx, hb, hml, hown, hts⟩ (c_L_trySetting l G b X u hst) (vx_cwSW 2 hts gL_call_L_trySetting rfl rfl rfl (by decide +kernel) ⟨Nat.le_of_ble_eq_true rfl, Nat.le_of_ble_eq_true rfl⟩) hP hO (fun U hU hW => hTh.warm hW hU) hN rfl hl.1 (Nat.le_of_ble_eq_true rfl) dL_call_135 ⟨Nat.le_of_ble_eq_true rfl, Nat.le_of_ble_eq_true rfl⟩) hS (fun q h => h) (fun H locs hP1 hz hk hS => ?_)
  exact W.iret hx hb hr (fun t ht hW => ⟨rfl, by rw [ht]; exact hP1, hS.F ht⟩) hS.2.2 dL_call_138

theorem c_call_6 (l : Launch) (G : GG) (b : Nat) (X : Cx) (u v w : Int32) (r : Int32) (X1 : Cx) (hst : l.stackTraces = false) (hq : pv (h_X6_setting X u) X = (r, X1)) : Met l yL_call wsL_call ({ frames := 11, cells := 1, slots := 6, locals := 186 }) (PcN G (blk b (b + 170)) [.ref b, .int 6, .int u, .int v, .int w] (Cb G b X)) (QM (some (.int r)) (Cb G b X1) (blk b (b + 170))) 1 6 (blk b (b + 170)) := by
  have h := c_call0_6 l G b X u v w hst
  rw [hq] at h
  exact h

set_option maxHeartbeats 4000000 in
set_option maxRecDepth 100000 in
theorem c_call0_7 (l : Launch) (G : GG) (b : Nat) (X : Cx) (u v w : Int32) (hst : l.stackTraces = false) (hO14 : qO (xH X) < 14) (hK14 : qK (xH X) ≤ 14) : Met l yL_call wsL_call ({ frames := 11, cells := 1, slots := 6, locals := 186 }) (PcN G (blk b (b + 170)) [.ref b, .int 7, .int u, .int v, .int w] (Cb G b X)) (QM (some (.int (pv (h_X6_come X u v) X).1)) (Cb G b (pv (h_X6_come X u v) X).2) (blk b (b + 170))) 1 6 (blk b (b + 170)) := by
  refine metN (cc := cL_call) (maxL := 5) (ret := (some .int)) (by decide) rfl ?_
  intro p e s m below meth cd hx hb hr hml hown hts hlocks hP hO hTh hN
  have hS : va_S (blk b (b + 170)) s.heap s.heap [] := va_S.rf
  have hl := lv_entry ([.ref b, .int 7, .int u, .int v, .int w]) (n := 5) (Nat.le_of_ble_eq_true rfl)
  rw [lg_entry_eq]
  generalize (lg_sl ([.ref b, .int 7, .int u, .int v, .int w]) ++ List.replicate (5 - (lg_sl ([.ref b, .int 7, .int u, .int v, .int w])).length) Slot.unset).toArray = ls at hl ⊢
  have hl : lv_has ls 5 [(0, .ref b), (1, .int 7), (2, .int u), (3, .int v), (4, .int w)] := hl
  refine lv_iload_n hx hb dL_call_0 rfl (lv_at hl 1 rfl) ?_
  refine lv_tableIn (off := 138) (tgt := 139) hx hb dL_call_1 (by decide) (by decide) (by decide +kernel) (by decide) ?_
  refine lv_aload_n hx hb dL_call_139 rfl (lv_at hl 0 rfl) ?_
  refine lv_iload_n hx hb dL_call_140 rfl (lv_at hl 2 rfl) ?_
  refine lv_iload_n hx hb dL_call_141 rfl (lv_at hl 3 rfl) ?_
  refine cl_mx (xSW (A := (blk b (b + 170))) (As := [.ref b, .int u, .int v]) (rest := []) ⟨hx, hb, hml, hown, hts⟩ (c_L_tryCome l G b X u v hst hO14 hK14) (vx_cwSW 3 hts gL_call_L_tryCome rfl rfl rfl (by decide +kernel) ⟨Nat.le_of_ble_eq_true rfl, Nat.le_of_ble_eq_true rfl⟩) hP hO (fun U hU hW => hTh.warm hW hU) hN rfl hl.1 (Nat.le_of_ble_eq_true rfl) dL_call_142 ⟨Nat.le_of_ble_eq_true rfl, Nat.le_of_ble_eq_true rfl⟩) hS (fun q h => h) (fun H locs hP1 hz hk hS => ?_)
  exact W.iret hx hb hr (fun t ht hW => ⟨rfl, by rw [ht]; exact hP1, hS.F ht⟩) hS.2.2 dL_call_145

theorem c_call_7 (l : Launch) (G : GG) (b : Nat) (X : Cx) (u v w : Int32) (r : Int32) (X1 : Cx) (hst : l.stackTraces = false) (hO14 : qO (xH X) < 14) (hK14 : qK (xH X) ≤ 14) (hq : pv (h_X6_come X u v) X = (r, X1)) : Met l yL_call wsL_call ({ frames := 11, cells := 1, slots := 6, locals := 186 }) (PcN G (blk b (b + 170)) [.ref b, .int 7, .int u, .int v, .int w] (Cb G b X)) (QM (some (.int r)) (Cb G b X1) (blk b (b + 170))) 1 6 (blk b (b + 170)) := by
  have h := c_call0_7 l G b X u v w hst hO14 hK14
  rw [hq] at h
  exact h

set_option maxHeartbeats 4000000 in
set_option maxRecDepth 100000 in
theorem c_call0_8 (l : Launch) (G : GG) (b : Nat) (X : Cx) (u v w : Int32) (hst : l.stackTraces = false) (hO14 : qO (xH X) < 14) (hK14 : qK (xH X) ≤ 14) : Met l yL_call wsL_call ({ frames := 11, cells := 1, slots := 6, locals := 186 }) (PcN G (blk b (b + 170)) [.ref b, .int 8, .int u, .int v, .int w] (Cb G b X)) (QM (some (.int (pv (h_X6_leave X u) X).1)) (Cb G b (pv (h_X6_leave X u) X).2) (blk b (b + 170))) 1 6 (blk b (b + 170)) := by
  refine metN (cc := cL_call) (maxL := 5) (ret := (some .int)) (by decide) rfl ?_
  intro p e s m below meth cd hx hb hr hml hown hts hlocks hP hO hTh hN
  have hS : va_S (blk b (b + 170)) s.heap s.heap [] := va_S.rf
  have hl := lv_entry ([.ref b, .int 8, .int u, .int v, .int w]) (n := 5) (Nat.le_of_ble_eq_true rfl)
  rw [lg_entry_eq]
  generalize (lg_sl ([.ref b, .int 8, .int u, .int v, .int w]) ++ List.replicate (5 - (lg_sl ([.ref b, .int 8, .int u, .int v, .int w])).length) Slot.unset).toArray = ls at hl ⊢
  have hl : lv_has ls 5 [(0, .ref b), (1, .int 8), (2, .int u), (3, .int v), (4, .int w)] := hl
  refine lv_iload_n hx hb dL_call_0 rfl (lv_at hl 1 rfl) ?_
  refine lv_tableIn (off := 145) (tgt := 146) hx hb dL_call_1 (by decide) (by decide) (by decide +kernel) (by decide) ?_
  refine lv_aload_n hx hb dL_call_146 rfl (lv_at hl 0 rfl) ?_
  refine lv_iload_n hx hb dL_call_147 rfl (lv_at hl 2 rfl) ?_
  refine cl_mx (xSW (A := (blk b (b + 170))) (As := [.ref b, .int u]) (rest := []) ⟨hx, hb, hml, hown, hts⟩ (c_L_tryLeave l G b X u hst hO14 hK14) (vx_cwSW 2 hts gL_call_L_tryLeave rfl rfl rfl (by decide +kernel) ⟨Nat.le_of_ble_eq_true rfl, Nat.le_of_ble_eq_true rfl⟩) hP hO (fun U hU hW => hTh.warm hW hU) hN rfl hl.1 (Nat.le_of_ble_eq_true rfl) dL_call_148 ⟨Nat.le_of_ble_eq_true rfl, Nat.le_of_ble_eq_true rfl⟩) hS (fun q h => h) (fun H locs hP1 hz hk hS => ?_)
  exact W.iret hx hb hr (fun t ht hW => ⟨rfl, by rw [ht]; exact hP1, hS.F ht⟩) hS.2.2 dL_call_151

theorem c_call_8 (l : Launch) (G : GG) (b : Nat) (X : Cx) (u v w : Int32) (r : Int32) (X1 : Cx) (hst : l.stackTraces = false) (hO14 : qO (xH X) < 14) (hK14 : qK (xH X) ≤ 14) (hq : pv (h_X6_leave X u) X = (r, X1)) : Met l yL_call wsL_call ({ frames := 11, cells := 1, slots := 6, locals := 186 }) (PcN G (blk b (b + 170)) [.ref b, .int 8, .int u, .int v, .int w] (Cb G b X)) (QM (some (.int r)) (Cb G b X1) (blk b (b + 170))) 1 6 (blk b (b + 170)) := by
  have h := c_call0_8 l G b X u v w hst hO14 hK14
  rw [hq] at h
  exact h

set_option maxHeartbeats 4000000 in
set_option maxRecDepth 100000 in
theorem c_call0_9 (l : Launch) (G : GG) (b : Nat) (X : Cx) (u v w : Int32) (hst : l.stackTraces = false) (hO14 : qO (xH X) < 14) (hK14 : qK (xH X) ≤ 14) : Met l yL_call wsL_call ({ frames := 11, cells := 1, slots := 6, locals := 186 }) (PcN G (blk b (b + 170)) [.ref b, .int 9, .int u, .int v, .int w] (Cb G b X)) (QM (some (.int (pv (h_X6_tow X u) X).1)) (Cb G b (pv (h_X6_tow X u) X).2) (blk b (b + 170))) 1 6 (blk b (b + 170)) := by
  refine metN (cc := cL_call) (maxL := 5) (ret := (some .int)) (by decide) rfl ?_
  intro p e s m below meth cd hx hb hr hml hown hts hlocks hP hO hTh hN
  have hS : va_S (blk b (b + 170)) s.heap s.heap [] := va_S.rf
  have hl := lv_entry ([.ref b, .int 9, .int u, .int v, .int w]) (n := 5) (Nat.le_of_ble_eq_true rfl)
  rw [lg_entry_eq]
  generalize (lg_sl ([.ref b, .int 9, .int u, .int v, .int w]) ++ List.replicate (5 - (lg_sl ([.ref b, .int 9, .int u, .int v, .int w])).length) Slot.unset).toArray = ls at hl ⊢
  have hl : lv_has ls 5 [(0, .ref b), (1, .int 9), (2, .int u), (3, .int v), (4, .int w)] := hl
  refine lv_iload_n hx hb dL_call_0 rfl (lv_at hl 1 rfl) ?_
  refine lv_tableIn (off := 151) (tgt := 152) hx hb dL_call_1 (by decide) (by decide) (by decide +kernel) (by decide) ?_
  refine lv_aload_n hx hb dL_call_152 rfl (lv_at hl 0 rfl) ?_
  refine lv_iload_n hx hb dL_call_153 rfl (lv_at hl 2 rfl) ?_
  refine cl_mx (xSW (A := (blk b (b + 170))) (As := [.ref b, .int u]) (rest := []) ⟨hx, hb, hml, hown, hts⟩ (c_L_tryTow l G b X u hst hO14 hK14) (vx_cwSW 2 hts gL_call_L_tryTow rfl rfl rfl (by decide +kernel) ⟨Nat.le_of_ble_eq_true rfl, Nat.le_of_ble_eq_true rfl⟩) hP hO (fun U hU hW => hTh.warm hW hU) hN rfl hl.1 (Nat.le_of_ble_eq_true rfl) dL_call_154 ⟨Nat.le_of_ble_eq_true rfl, Nat.le_of_ble_eq_true rfl⟩) hS (fun q h => h) (fun H locs hP1 hz hk hS => ?_)
  exact W.iret hx hb hr (fun t ht hW => ⟨rfl, by rw [ht]; exact hP1, hS.F ht⟩) hS.2.2 dL_call_157

theorem c_call_9 (l : Launch) (G : GG) (b : Nat) (X : Cx) (u v w : Int32) (r : Int32) (X1 : Cx) (hst : l.stackTraces = false) (hO14 : qO (xH X) < 14) (hK14 : qK (xH X) ≤ 14) (hq : pv (h_X6_tow X u) X = (r, X1)) : Met l yL_call wsL_call ({ frames := 11, cells := 1, slots := 6, locals := 186 }) (PcN G (blk b (b + 170)) [.ref b, .int 9, .int u, .int v, .int w] (Cb G b X)) (QM (some (.int r)) (Cb G b X1) (blk b (b + 170))) 1 6 (blk b (b + 170)) := by
  have h := c_call0_9 l G b X u v w hst hO14 hK14
  rw [hq] at h
  exact h

set_option maxHeartbeats 4000000 in
set_option maxRecDepth 100000 in
theorem c_call0_10 (l : Launch) (G : GG) (b : Nat) (X : Cx) (u v w : Int32) (hst : l.stackTraces = false) (hO14 : qO (xH X) < 14) (hK14 : qK (xH X) ≤ 14) : Met l yL_call wsL_call ({ frames := 11, cells := 1, slots := 6, locals := 186 }) (PcN G (blk b (b + 170)) [.ref b, .int 10, .int u, .int v, .int w] (Cb G b X)) (QM (some (.int (pv (h_X6_move X u v) X).1)) (Cb G b (pv (h_X6_move X u v) X).2) (blk b (b + 170))) 1 6 (blk b (b + 170)) := by
  refine metN (cc := cL_call) (maxL := 5) (ret := (some .int)) (by decide) rfl ?_
  intro p e s m below meth cd hx hb hr hml hown hts hlocks hP hO hTh hN
  have hS : va_S (blk b (b + 170)) s.heap s.heap [] := va_S.rf
  have hl := lv_entry ([.ref b, .int 10, .int u, .int v, .int w]) (n := 5) (Nat.le_of_ble_eq_true rfl)
  rw [lg_entry_eq]
  generalize (lg_sl ([.ref b, .int 10, .int u, .int v, .int w]) ++ List.replicate (5 - (lg_sl ([.ref b, .int 10, .int u, .int v, .int w])).length) Slot.unset).toArray = ls at hl ⊢
  have hl : lv_has ls 5 [(0, .ref b), (1, .int 10), (2, .int u), (3, .int v), (4, .int w)] := hl
  refine lv_iload_n hx hb dL_call_0 rfl (lv_at hl 1 rfl) ?_
  refine lv_tableIn (off := 157) (tgt := 158) hx hb dL_call_1 (by decide) (by decide) (by decide +kernel) (by decide) ?_
  refine lv_aload_n hx hb dL_call_158 rfl (lv_at hl 0 rfl) ?_
  refine lv_iload_n hx hb dL_call_159 rfl (lv_at hl 2 rfl) ?_
  refine lv_iload_n hx hb dL_call_160 rfl (lv_at hl 3 rfl) ?_
  refine cl_mx (xSW (A := (blk b (b + 170))) (As := [.ref b, .int u, .int v]) (rest := []) ⟨hx, hb, hml, hown, hts⟩ (c_L_tryMove l G b X u v hst hO14 hK14) (vx_cwSW 3 hts gL_call_L_tryMove rfl rfl rfl (by decide +kernel) ⟨Nat.le_of_ble_eq_true rfl, Nat.le_of_ble_eq_true rfl⟩) hP hO (fun U hU hW => hTh.warm hW hU) hN rfl hl.1 (Nat.le_of_ble_eq_true rfl) dL_call_161 ⟨Nat.le_of_ble_eq_true rfl, Nat.le_of_ble_eq_true rfl⟩) hS (fun q h => h) (fun H locs hP1 hz hk hS => ?_)
  exact W.iret hx hb hr (fun t ht hW => ⟨rfl, by rw [ht]; exact hP1, hS.F ht⟩) hS.2.2 dL_call_164

theorem c_call_10 (l : Launch) (G : GG) (b : Nat) (X : Cx) (u v w : Int32) (r : Int32) (X1 : Cx) (hst : l.stackTraces = false) (hO14 : qO (xH X) < 14) (hK14 : qK (xH X) ≤ 14) (hq : pv (h_X6_move X u v) X = (r, X1)) : Met l yL_call wsL_call ({ frames := 11, cells := 1, slots := 6, locals := 186 }) (PcN G (blk b (b + 170)) [.ref b, .int 10, .int u, .int v, .int w] (Cb G b X)) (QM (some (.int r)) (Cb G b X1) (blk b (b + 170))) 1 6 (blk b (b + 170)) := by
  have h := c_call0_10 l G b X u v w hst hO14 hK14
  rw [hq] at h
  exact h

set_option maxHeartbeats 4000000 in
set_option maxRecDepth 100000 in
theorem c_call0_11 (l : Launch) (G : GG) (b : Nat) (X : Cx) (u v w : Int32) (hst : l.stackTraces = false) (hO14 : qO (xH X) < 14) (hK14 : qK (xH X) ≤ 14) : Met l yL_call wsL_call ({ frames := 11, cells := 1, slots := 6, locals := 186 }) (PcN G (blk b (b + 170)) [.ref b, .int 11, .int u, .int v, .int w] (Cb G b X)) (QM (some (.int (pv (h_X6_minutes X u) X).1)) (Cb G b (pv (h_X6_minutes X u) X).2) (blk b (b + 170))) 1 6 (blk b (b + 170)) := by
  refine metN (cc := cL_call) (maxL := 5) (ret := (some .int)) (by decide) rfl ?_
  intro p e s m below meth cd hx hb hr hml hown hts hlocks hP hO hTh hN
  have hS : va_S (blk b (b + 170)) s.heap s.heap [] := va_S.rf
  have hl := lv_entry ([.ref b, .int 11, .int u, .int v, .int w]) (n := 5) (Nat.le_of_ble_eq_true rfl)
  rw [lg_entry_eq]
  generalize (lg_sl ([.ref b, .int 11, .int u, .int v, .int w]) ++ List.replicate (5 - (lg_sl ([.ref b, .int 11, .int u, .int v, .int w])).length) Slot.unset).toArray = ls at hl ⊢
  have hl : lv_has ls 5 [(0, .ref b), (1, .int 11), (2, .int u), (3, .int v), (4, .int w)] := hl
  refine lv_iload_n hx hb dL_call_0 rfl (lv_at hl 1 rfl) ?_
  refine lv_tableIn (off := 164) (tgt := 165) hx hb dL_call_1 (by decide) (by decide) (by decide +kernel) (by decide) ?_
  refine lv_aload_n hx hb dL_call_165 rfl (lv_at hl 0 rfl) ?_
  refine lv_iload_n hx hb dL_call_166 rfl (lv_at hl 2 rfl) ?_
  refine cl_mx (xSW (A := (blk b (b + 170))) (As := [.ref b, .int u]) (rest := []) ⟨hx, hb, hml, hown, hts⟩ (c_L_tryMinutes l G b X u hst hO14 hK14) (vx_cwSW 2 hts gL_call_L_tryMinutes rfl rfl rfl (by decide +kernel) ⟨Nat.le_of_ble_eq_true rfl, Nat.le_of_ble_eq_true rfl⟩) hP hO (fun U hU hW => hTh.warm hW hU) hN rfl hl.1 (Nat.le_of_ble_eq_true rfl) dL_call_167 ⟨Nat.le_of_ble_eq_true rfl, Nat.le_of_ble_eq_true rfl⟩) hS (fun q h => h) (fun H locs hP1 hz hk hS => ?_)
  exact W.iret hx hb hr (fun t ht hW => ⟨rfl, by rw [ht]; exact hP1, hS.F ht⟩) hS.2.2 dL_call_170

theorem c_call_11 (l : Launch) (G : GG) (b : Nat) (X : Cx) (u v w : Int32) (r : Int32) (X1 : Cx) (hst : l.stackTraces = false) (hO14 : qO (xH X) < 14) (hK14 : qK (xH X) ≤ 14) (hq : pv (h_X6_minutes X u) X = (r, X1)) : Met l yL_call wsL_call ({ frames := 11, cells := 1, slots := 6, locals := 186 }) (PcN G (blk b (b + 170)) [.ref b, .int 11, .int u, .int v, .int w] (Cb G b X)) (QM (some (.int r)) (Cb G b X1) (blk b (b + 170))) 1 6 (blk b (b + 170)) := by
  have h := c_call0_11 l G b X u v w hst hO14 hK14
  rw [hq] at h
  exact h

set_option maxHeartbeats 4000000 in
set_option maxRecDepth 100000 in
theorem c_call0_12 (l : Launch) (G : GG) (b : Nat) (X : Cx) (u v w : Int32) (hst : l.stackTraces = false) (hO14 : qO (xH X) < 14) (hK14 : qK (xH X) ≤ 14) : Met l yL_call wsL_call ({ frames := 11, cells := 1, slots := 6, locals := 186 }) (PcN G (blk b (b + 170)) [.ref b, .int 12, .int u, .int v, .int w] (Cb G b X)) (QM (some (.int (pv (h_X6_set X u v) X).1)) (Cb G b (pv (h_X6_set X u v) X).2) (blk b (b + 170))) 1 6 (blk b (b + 170)) := by
  refine metN (cc := cL_call) (maxL := 5) (ret := (some .int)) (by decide) rfl ?_
  intro p e s m below meth cd hx hb hr hml hown hts hlocks hP hO hTh hN
  have hS : va_S (blk b (b + 170)) s.heap s.heap [] := va_S.rf
  have hl := lv_entry ([.ref b, .int 12, .int u, .int v, .int w]) (n := 5) (Nat.le_of_ble_eq_true rfl)
  rw [lg_entry_eq]
  generalize (lg_sl ([.ref b, .int 12, .int u, .int v, .int w]) ++ List.replicate (5 - (lg_sl ([.ref b, .int 12, .int u, .int v, .int w])).length) Slot.unset).toArray = ls at hl ⊢
  have hl : lv_has ls 5 [(0, .ref b), (1, .int 12), (2, .int u), (3, .int v), (4, .int w)] := hl
  refine lv_iload_n hx hb dL_call_0 rfl (lv_at hl 1 rfl) ?_
  refine lv_tableIn (off := 170) (tgt := 171) hx hb dL_call_1 (by decide) (by decide) (by decide +kernel) (by decide) ?_
  refine lv_aload_n hx hb dL_call_171 rfl (lv_at hl 0 rfl) ?_
  refine lv_iload_n hx hb dL_call_172 rfl (lv_at hl 2 rfl) ?_
  refine lv_iload_n hx hb dL_call_173 rfl (lv_at hl 3 rfl) ?_
  refine cl_mx (xSW (A := (blk b (b + 170))) (As := [.ref b, .int u, .int v]) (rest := []) ⟨hx, hb, hml, hown, hts⟩ (c_L_tryLay l G b X u v hst hO14 hK14) (vx_cwSW 3 hts gL_call_L_tryLay rfl rfl rfl (by decide +kernel) ⟨Nat.le_of_ble_eq_true rfl, Nat.le_of_ble_eq_true rfl⟩) hP hO (fun U hU hW => hTh.warm hW hU) hN rfl hl.1 (Nat.le_of_ble_eq_true rfl) dL_call_174 ⟨Nat.le_of_ble_eq_true rfl, Nat.le_of_ble_eq_true rfl⟩) hS (fun q h => h) (fun H locs hP1 hz hk hS => ?_)
  exact W.iret hx hb hr (fun t ht hW => ⟨rfl, by rw [ht]; exact hP1, hS.F ht⟩) hS.2.2 dL_call_177

theorem c_call_12 (l : Launch) (G : GG) (b : Nat) (X : Cx) (u v w : Int32) (r : Int32) (X1 : Cx) (hst : l.stackTraces = false) (hO14 : qO (xH X) < 14) (hK14 : qK (xH X) ≤ 14) (hq : pv (h_X6_set X u v) X = (r, X1)) : Met l yL_call wsL_call ({ frames := 11, cells := 1, slots := 6, locals := 186 }) (PcN G (blk b (b + 170)) [.ref b, .int 12, .int u, .int v, .int w] (Cb G b X)) (QM (some (.int r)) (Cb G b X1) (blk b (b + 170))) 1 6 (blk b (b + 170)) := by
  have h := c_call0_12 l G b X u v w hst hO14 hK14
  rw [hq] at h
  exact h

set_option maxHeartbeats 4000000 in
set_option maxRecDepth 100000 in
theorem c_call0_13 (l : Launch) (G : GG) (b : Nat) (X : Cx) (u v w : Int32) (hst : l.stackTraces = false) (hO14 : qO (xH X) < 14) (hK14 : qK (xH X) ≤ 14) : Met l yL_call wsL_call ({ frames := 11, cells := 1, slots := 6, locals := 186 }) (PcN G (blk b (b + 170)) [.ref b, .int 13, .int u, .int v, .int w] (Cb G b X)) (QM (some (.int (pv (h_X6_undo X ) X).1)) (Cb G b (pv (h_X6_undo X ) X).2) (blk b (b + 170))) 1 6 (blk b (b + 170)) := by
  refine metN (cc := cL_call) (maxL := 5) (ret := (some .int)) (by decide) rfl ?_
  intro p e s m below meth cd hx hb hr hml hown hts hlocks hP hO hTh hN
  have hS : va_S (blk b (b + 170)) s.heap s.heap [] := va_S.rf
  have hl := lv_entry ([.ref b, .int 13, .int u, .int v, .int w]) (n := 5) (Nat.le_of_ble_eq_true rfl)
  rw [lg_entry_eq]
  generalize (lg_sl ([.ref b, .int 13, .int u, .int v, .int w]) ++ List.replicate (5 - (lg_sl ([.ref b, .int 13, .int u, .int v, .int w])).length) Slot.unset).toArray = ls at hl ⊢
  have hl : lv_has ls 5 [(0, .ref b), (1, .int 13), (2, .int u), (3, .int v), (4, .int w)] := hl
  refine lv_iload_n hx hb dL_call_0 rfl (lv_at hl 1 rfl) ?_
  refine lv_tableIn (off := 177) (tgt := 178) hx hb dL_call_1 (by decide) (by decide) (by decide +kernel) (by decide) ?_
  refine lv_aload_n hx hb dL_call_178 rfl (lv_at hl 0 rfl) ?_
  refine cl_mx (xSW (A := (blk b (b + 170))) (As := [.ref b]) (rest := []) ⟨hx, hb, hml, hown, hts⟩ (c_L_tryUndo l G b X hst hO14 hK14) (vx_cwSW 1 hts gL_call_L_tryUndo rfl rfl rfl (by decide +kernel) ⟨Nat.le_of_ble_eq_true rfl, Nat.le_of_ble_eq_true rfl⟩) hP hO (fun U hU hW => hTh.warm hW hU) hN rfl hl.1 (Nat.le_of_ble_eq_true rfl) dL_call_179 ⟨Nat.le_of_ble_eq_true rfl, Nat.le_of_ble_eq_true rfl⟩) hS (fun q h => h) (fun H locs hP1 hz hk hS => ?_)
  exact W.iret hx hb hr (fun t ht hW => ⟨rfl, by rw [ht]; exact hP1, hS.F ht⟩) hS.2.2 dL_call_182

theorem c_call_13 (l : Launch) (G : GG) (b : Nat) (X : Cx) (u v w : Int32) (r : Int32) (X1 : Cx) (hst : l.stackTraces = false) (hO14 : qO (xH X) < 14) (hK14 : qK (xH X) ≤ 14) (hq : pv (h_X6_undo X ) X = (r, X1)) : Met l yL_call wsL_call ({ frames := 11, cells := 1, slots := 6, locals := 186 }) (PcN G (blk b (b + 170)) [.ref b, .int 13, .int u, .int v, .int w] (Cb G b X)) (QM (some (.int r)) (Cb G b X1) (blk b (b + 170))) 1 6 (blk b (b + 170)) := by
  have h := c_call0_13 l G b X u v w hst hO14 hK14
  rw [hq] at h
  exact h

set_option maxHeartbeats 4000000 in
set_option maxRecDepth 100000 in
theorem c_call0_14 (l : Launch) (G : GG) (b : Nat) (X : Cx) (u v w : Int32) (hst : l.stackTraces = false) : Met l yL_call wsL_call ({ frames := 11, cells := 1, slots := 6, locals := 186 }) (PcN G (blk b (b + 170)) [.ref b, .int 14, .int u, .int v, .int w] (Cb G b X)) (QM (some (.int (pv (h_X6_why X u) X).1)) (Cb G b (pv (h_X6_why X u) X).2) (blk b (b + 170))) 1 6 (blk b (b + 170)) := by
  refine metN (cc := cL_call) (maxL := 5) (ret := (some .int)) (by decide) rfl ?_
  intro p e s m below meth cd hx hb hr hml hown hts hlocks hP hO hTh hN
  have hS : va_S (blk b (b + 170)) s.heap s.heap [] := va_S.rf
  have hl := lv_entry ([.ref b, .int 14, .int u, .int v, .int w]) (n := 5) (Nat.le_of_ble_eq_true rfl)
  rw [lg_entry_eq]
  generalize (lg_sl ([.ref b, .int 14, .int u, .int v, .int w]) ++ List.replicate (5 - (lg_sl ([.ref b, .int 14, .int u, .int v, .int w])).length) Slot.unset).toArray = ls at hl ⊢
  have hl : lv_has ls 5 [(0, .ref b), (1, .int 14), (2, .int u), (3, .int v), (4, .int w)] := hl
  refine lv_iload_n hx hb dL_call_0 rfl (lv_at hl 1 rfl) ?_
  refine lv_tableIn (off := 182) (tgt := 183) hx hb dL_call_1 (by decide) (by decide) (by decide +kernel) (by decide) ?_
  refine lv_aload_n hx hb dL_call_183 rfl (lv_at hl 0 rfl) ?_
  refine lv_iload_n hx hb dL_call_184 rfl (lv_at hl 2 rfl) ?_
  refine cl_mx (xSW (A := (blk b (b + 170))) (As := [.ref b, .int u]) (rest := []) ⟨hx, hb, hml, hown, hts⟩ (c_L_tryWhy l G b X u hst) (vx_cwSW 2 hts gL_call_L_tryWhy rfl rfl rfl (by decide +kernel) ⟨Nat.le_of_ble_eq_true rfl, Nat.le_of_ble_eq_true rfl⟩) hP hO (fun U hU hW => hTh.warm hW hU) hN rfl hl.1 (Nat.le_of_ble_eq_true rfl) dL_call_185 ⟨Nat.le_of_ble_eq_true rfl, Nat.le_of_ble_eq_true rfl⟩) hS (fun q h => h) (fun H locs hP1 hz hk hS => ?_)
  exact W.iret hx hb hr (fun t ht hW => ⟨rfl, by rw [ht]; exact hP1, hS.F ht⟩) hS.2.2 dL_call_188

theorem c_call_14 (l : Launch) (G : GG) (b : Nat) (X : Cx) (u v w : Int32) (r : Int32) (X1 : Cx) (hst : l.stackTraces = false) (hq : pv (h_X6_why X u) X = (r, X1)) : Met l yL_call wsL_call ({ frames := 11, cells := 1, slots := 6, locals := 186 }) (PcN G (blk b (b + 170)) [.ref b, .int 14, .int u, .int v, .int w] (Cb G b X)) (QM (some (.int r)) (Cb G b X1) (blk b (b + 170))) 1 6 (blk b (b + 170)) := by
  have h := c_call0_14 l G b X u v w hst
  rw [hq] at h
  exact h

set_option maxHeartbeats 4000000 in
set_option maxRecDepth 100000 in
theorem c_call0_15 (l : Launch) (G : GG) (b : Nat) (X : Cx) (u v w : Int32) (hst : l.stackTraces = false) : Met l yL_call wsL_call ({ frames := 11, cells := 1, slots := 6, locals := 186 }) (PcN G (blk b (b + 170)) [.ref b, .int 15, .int u, .int v, .int w] (Cb G b X)) (QM (some (.int (pv (h_X6_place X u) X).1)) (Cb G b (pv (h_X6_place X u) X).2) (blk b (b + 170))) 1 6 (blk b (b + 170)) := by
  refine metN (cc := cL_call) (maxL := 5) (ret := (some .int)) (by decide) rfl ?_
  intro p e s m below meth cd hx hb hr hml hown hts hlocks hP hO hTh hN
  have hS : va_S (blk b (b + 170)) s.heap s.heap [] := va_S.rf
  have hl := lv_entry ([.ref b, .int 15, .int u, .int v, .int w]) (n := 5) (Nat.le_of_ble_eq_true rfl)
  rw [lg_entry_eq]
  generalize (lg_sl ([.ref b, .int 15, .int u, .int v, .int w]) ++ List.replicate (5 - (lg_sl ([.ref b, .int 15, .int u, .int v, .int w])).length) Slot.unset).toArray = ls at hl ⊢
  have hl : lv_has ls 5 [(0, .ref b), (1, .int 15), (2, .int u), (3, .int v), (4, .int w)] := hl
  refine lv_iload_n hx hb dL_call_0 rfl (lv_at hl 1 rfl) ?_
  refine lv_tableIn (off := 188) (tgt := 189) hx hb dL_call_1 (by decide) (by decide) (by decide +kernel) (by decide) ?_
  refine lv_aload_n hx hb dL_call_189 rfl (lv_at hl 0 rfl) ?_
  refine lv_iload_n hx hb dL_call_190 rfl (lv_at hl 2 rfl) ?_
  refine cl_mx (xSW (A := (blk b (b + 170))) (As := [.ref b, .int u]) (rest := []) ⟨hx, hb, hml, hown, hts⟩ (c_L_tryPlace l G b X u hst) (vx_cwSW 2 hts gL_call_L_tryPlace rfl rfl rfl (by decide +kernel) ⟨Nat.le_of_ble_eq_true rfl, Nat.le_of_ble_eq_true rfl⟩) hP hO (fun U hU hW => hTh.warm hW hU) hN rfl hl.1 (Nat.le_of_ble_eq_true rfl) dL_call_191 ⟨Nat.le_of_ble_eq_true rfl, Nat.le_of_ble_eq_true rfl⟩) hS (fun q h => h) (fun H locs hP1 hz hk hS => ?_)
  exact W.iret hx hb hr (fun t ht hW => ⟨rfl, by rw [ht]; exact hP1, hS.F ht⟩) hS.2.2 dL_call_194

theorem c_call_15 (l : Launch) (G : GG) (b : Nat) (X : Cx) (u v w : Int32) (r : Int32) (X1 : Cx) (hst : l.stackTraces = false) (hq : pv (h_X6_place X u) X = (r, X1)) : Met l yL_call wsL_call ({ frames := 11, cells := 1, slots := 6, locals := 186 }) (PcN G (blk b (b + 170)) [.ref b, .int 15, .int u, .int v, .int w] (Cb G b X)) (QM (some (.int r)) (Cb G b X1) (blk b (b + 170))) 1 6 (blk b (b + 170)) := by
  have h := c_call0_15 l G b X u v w hst
  rw [hq] at h
  exact h

set_option maxHeartbeats 4000000 in
set_option maxRecDepth 100000 in
theorem c_call0_16 (l : Launch) (G : GG) (b : Nat) (X : Cx) (u v w : Int32) (hst : l.stackTraces = false) : Met l yL_call wsL_call ({ frames := 11, cells := 1, slots := 6, locals := 186 }) (PcN G (blk b (b + 170)) [.ref b, .int 16, .int u, .int v, .int w] (Cb G b X)) (QM (some (.int (pv (h_X6_fits X u v) X).1)) (Cb G b (pv (h_X6_fits X u v) X).2) (blk b (b + 170))) 1 6 (blk b (b + 170)) := by
  refine metN (cc := cL_call) (maxL := 5) (ret := (some .int)) (by decide) rfl ?_
  intro p e s m below meth cd hx hb hr hml hown hts hlocks hP hO hTh hN
  have hS : va_S (blk b (b + 170)) s.heap s.heap [] := va_S.rf
  have hl := lv_entry ([.ref b, .int 16, .int u, .int v, .int w]) (n := 5) (Nat.le_of_ble_eq_true rfl)
  rw [lg_entry_eq]
  generalize (lg_sl ([.ref b, .int 16, .int u, .int v, .int w]) ++ List.replicate (5 - (lg_sl ([.ref b, .int 16, .int u, .int v, .int w])).length) Slot.unset).toArray = ls at hl ⊢
  have hl : lv_has ls 5 [(0, .ref b), (1, .int 16), (2, .int u), (3, .int v), (4, .int w)] := hl
  refine lv_iload_n hx hb dL_call_0 rfl (lv_at hl 1 rfl) ?_
  refine lv_tableIn (off := 194) (tgt := 195) hx hb dL_call_1 (by decide) (by decide) (by decide +kernel) (by decide) ?_
  refine lv_aload_n hx hb dL_call_195 rfl (lv_at hl 0 rfl) ?_
  refine lv_iload_n hx hb dL_call_196 rfl (lv_at hl 2 rfl) ?_
  refine lv_iload_n hx hb dL_call_197 rfl (lv_at hl 3 rfl) ?_
  refine cl_mx (xSW (A := (blk b (b + 170))) (As := [.ref b, .int u, .int v]) (rest := []) ⟨hx, hb, hml, hown, hts⟩ (c_L_tryFits l G b X u v hst) (vx_cwSW 3 hts gL_call_L_tryFits rfl rfl rfl (by decide +kernel) ⟨Nat.le_of_ble_eq_true rfl, Nat.le_of_ble_eq_true rfl⟩) hP hO (fun U hU hW => hTh.warm hW hU) hN rfl hl.1 (Nat.le_of_ble_eq_true rfl) dL_call_198 ⟨Nat.le_of_ble_eq_true rfl, Nat.le_of_ble_eq_true rfl⟩) hS (fun q h => h) (fun H locs hP1 hz hk hS => ?_)
  exact W.iret hx hb hr (fun t ht hW => ⟨rfl, by rw [ht]; exact hP1, hS.F ht⟩) hS.2.2 dL_call_201

theorem c_call_16 (l : Launch) (G : GG) (b : Nat) (X : Cx) (u v w : Int32) (r : Int32) (X1 : Cx) (hst : l.stackTraces = false) (hq : pv (h_X6_fits X u v) X = (r, X1)) : Met l yL_call wsL_call ({ frames := 11, cells := 1, slots := 6, locals := 186 }) (PcN G (blk b (b + 170)) [.ref b, .int 16, .int u, .int v, .int w] (Cb G b X)) (QM (some (.int r)) (Cb G b X1) (blk b (b + 170))) 1 6 (blk b (b + 170)) := by
  have h := c_call0_16 l G b X u v w hst
  rw [hq] at h
  exact h

set_option maxHeartbeats 4000000 in
set_option maxRecDepth 100000 in
theorem c_call0_17 (l : Launch) (G : GG) (b : Nat) (X : Cx) (u v w : Int32) (hst : l.stackTraces = false) : Met l yL_call wsL_call ({ frames := 11, cells := 1, slots := 6, locals := 186 }) (PcN G (blk b (b + 170)) [.ref b, .int 17, .int u, .int v, .int w] (Cb G b X)) (QM (some (.int (pv (h_X6_gapIn X u) X).1)) (Cb G b (pv (h_X6_gapIn X u) X).2) (blk b (b + 170))) 1 6 (blk b (b + 170)) := by
  refine metN (cc := cL_call) (maxL := 5) (ret := (some .int)) (by decide) rfl ?_
  intro p e s m below meth cd hx hb hr hml hown hts hlocks hP hO hTh hN
  have hS : va_S (blk b (b + 170)) s.heap s.heap [] := va_S.rf
  have hl := lv_entry ([.ref b, .int 17, .int u, .int v, .int w]) (n := 5) (Nat.le_of_ble_eq_true rfl)
  rw [lg_entry_eq]
  generalize (lg_sl ([.ref b, .int 17, .int u, .int v, .int w]) ++ List.replicate (5 - (lg_sl ([.ref b, .int 17, .int u, .int v, .int w])).length) Slot.unset).toArray = ls at hl ⊢
  have hl : lv_has ls 5 [(0, .ref b), (1, .int 17), (2, .int u), (3, .int v), (4, .int w)] := hl
  refine lv_iload_n hx hb dL_call_0 rfl (lv_at hl 1 rfl) ?_
  refine lv_tableIn (off := 201) (tgt := 202) hx hb dL_call_1 (by decide) (by decide) (by decide +kernel) (by decide) ?_
  refine lv_aload_n hx hb dL_call_202 rfl (lv_at hl 0 rfl) ?_
  refine lv_iload_n hx hb dL_call_203 rfl (lv_at hl 2 rfl) ?_
  refine cl_mx (xSW (A := (blk b (b + 170))) (As := [.ref b, .int u]) (rest := []) ⟨hx, hb, hml, hown, hts⟩ (c_L_tryWhen l G b X u hst) (vx_cwSW 2 hts gL_call_L_tryWhen rfl rfl rfl (by decide +kernel) ⟨Nat.le_of_ble_eq_true rfl, Nat.le_of_ble_eq_true rfl⟩) hP hO (fun U hU hW => hTh.warm hW hU) hN rfl hl.1 (Nat.le_of_ble_eq_true rfl) dL_call_204 ⟨Nat.le_of_ble_eq_true rfl, Nat.le_of_ble_eq_true rfl⟩) hS (fun q h => h) (fun H locs hP1 hz hk hS => ?_)
  exact W.iret hx hb hr (fun t ht hW => ⟨rfl, by rw [ht]; exact hP1, hS.F ht⟩) hS.2.2 dL_call_207

theorem c_call_17 (l : Launch) (G : GG) (b : Nat) (X : Cx) (u v w : Int32) (r : Int32) (X1 : Cx) (hst : l.stackTraces = false) (hq : pv (h_X6_gapIn X u) X = (r, X1)) : Met l yL_call wsL_call ({ frames := 11, cells := 1, slots := 6, locals := 186 }) (PcN G (blk b (b + 170)) [.ref b, .int 17, .int u, .int v, .int w] (Cb G b X)) (QM (some (.int r)) (Cb G b X1) (blk b (b + 170))) 1 6 (blk b (b + 170)) := by
  have h := c_call0_17 l G b X u v w hst
  rw [hq] at h
  exact h

set_option maxHeartbeats 4000000 in
set_option maxRecDepth 100000 in
theorem c_call0_18 (l : Launch) (G : GG) (b : Nat) (X : Cx) (u v w : Int32) (hst : l.stackTraces = false) : Met l yL_call wsL_call ({ frames := 11, cells := 1, slots := 6, locals := 186 }) (PcN G (blk b (b + 170)) [.ref b, .int 18, .int u, .int v, .int w] (Cb G b X)) (QM (some (.int (pv (h_X6_mover X u v) X).1)) (Cb G b (pv (h_X6_mover X u v) X).2) (blk b (b + 170))) 1 6 (blk b (b + 170)) := by
  refine metN (cc := cL_call) (maxL := 5) (ret := (some .int)) (by decide) rfl ?_
  intro p e s m below meth cd hx hb hr hml hown hts hlocks hP hO hTh hN
  have hS : va_S (blk b (b + 170)) s.heap s.heap [] := va_S.rf
  have hl := lv_entry ([.ref b, .int 18, .int u, .int v, .int w]) (n := 5) (Nat.le_of_ble_eq_true rfl)
  rw [lg_entry_eq]
  generalize (lg_sl ([.ref b, .int 18, .int u, .int v, .int w]) ++ List.replicate (5 - (lg_sl ([.ref b, .int 18, .int u, .int v, .int w])).length) Slot.unset).toArray = ls at hl ⊢
  have hl : lv_has ls 5 [(0, .ref b), (1, .int 18), (2, .int u), (3, .int v), (4, .int w)] := hl
  refine lv_iload_n hx hb dL_call_0 rfl (lv_at hl 1 rfl) ?_
  refine lv_tableIn (off := 207) (tgt := 208) hx hb dL_call_1 (by decide) (by decide) (by decide +kernel) (by decide) ?_
  refine lv_aload_n hx hb dL_call_208 rfl (lv_at hl 0 rfl) ?_
  refine lv_iload_n hx hb dL_call_209 rfl (lv_at hl 2 rfl) ?_
  refine lv_iload_n hx hb dL_call_210 rfl (lv_at hl 3 rfl) ?_
  refine cl_mx (xSW (A := (blk b (b + 170))) (As := [.ref b, .int u, .int v]) (rest := []) ⟨hx, hb, hml, hown, hts⟩ (c_L_tryMover l G b X u v hst) (vx_cwSW 3 hts gL_call_L_tryMover rfl rfl rfl (by decide +kernel) ⟨Nat.le_of_ble_eq_true rfl, Nat.le_of_ble_eq_true rfl⟩) hP hO (fun U hU hW => hTh.warm hW hU) hN rfl hl.1 (Nat.le_of_ble_eq_true rfl) dL_call_211 ⟨Nat.le_of_ble_eq_true rfl, Nat.le_of_ble_eq_true rfl⟩) hS (fun q h => h) (fun H locs hP1 hz hk hS => ?_)
  exact W.iret hx hb hr (fun t ht hW => ⟨rfl, by rw [ht]; exact hP1, hS.F ht⟩) hS.2.2 dL_call_214

theorem c_call_18 (l : Launch) (G : GG) (b : Nat) (X : Cx) (u v w : Int32) (r : Int32) (X1 : Cx) (hst : l.stackTraces = false) (hq : pv (h_X6_mover X u v) X = (r, X1)) : Met l yL_call wsL_call ({ frames := 11, cells := 1, slots := 6, locals := 186 }) (PcN G (blk b (b + 170)) [.ref b, .int 18, .int u, .int v, .int w] (Cb G b X)) (QM (some (.int r)) (Cb G b X1) (blk b (b + 170))) 1 6 (blk b (b + 170)) := by
  have h := c_call0_18 l G b X u v w hst
  rw [hq] at h
  exact h

set_option maxHeartbeats 4000000 in
set_option maxRecDepth 100000 in
theorem c_call0_19 (l : Launch) (G : GG) (b : Nat) (X : Cx) (u v w : Int32) (hst : l.stackTraces = false) : Met l yL_call wsL_call ({ frames := 11, cells := 1, slots := 6, locals := 186 }) (PcN G (blk b (b + 170)) [.ref b, .int 19, .int u, .int v, .int w] (Cb G b X)) (QM (some (.int (pv (h_X6_save X u) X).1)) (Cb G b (pv (h_X6_save X u) X).2) (blk b (b + 170))) 1 6 (blk b (b + 170)) := by
  refine metN (cc := cL_call) (maxL := 5) (ret := (some .int)) (by decide) rfl ?_
  intro p e s m below meth cd hx hb hr hml hown hts hlocks hP hO hTh hN
  have hS : va_S (blk b (b + 170)) s.heap s.heap [] := va_S.rf
  have hl := lv_entry ([.ref b, .int 19, .int u, .int v, .int w]) (n := 5) (Nat.le_of_ble_eq_true rfl)
  rw [lg_entry_eq]
  generalize (lg_sl ([.ref b, .int 19, .int u, .int v, .int w]) ++ List.replicate (5 - (lg_sl ([.ref b, .int 19, .int u, .int v, .int w])).length) Slot.unset).toArray = ls at hl ⊢
  have hl : lv_has ls 5 [(0, .ref b), (1, .int 19), (2, .int u), (3, .int v), (4, .int w)] := hl
  refine lv_iload_n hx hb dL_call_0 rfl (lv_at hl 1 rfl) ?_
  refine lv_tableIn (off := 214) (tgt := 215) hx hb dL_call_1 (by decide) (by decide) (by decide +kernel) (by decide) ?_
  refine lv_aload_n hx hb dL_call_215 rfl (lv_at hl 0 rfl) ?_
  refine lv_iload_n hx hb dL_call_216 rfl (lv_at hl 2 rfl) ?_
  refine cl_mx (xSW (A := (blk b (b + 170))) (As := [.ref b, .int u]) (rest := []) ⟨hx, hb, hml, hown, hts⟩ (c_L_tryKeep l G b X u hst) (vx_cwSW 2 hts gL_call_L_tryKeep rfl rfl rfl (by decide +kernel) ⟨Nat.le_of_ble_eq_true rfl, Nat.le_of_ble_eq_true rfl⟩) hP hO (fun U hU hW => hTh.warm hW hU) hN rfl hl.1 (Nat.le_of_ble_eq_true rfl) dL_call_217 ⟨Nat.le_of_ble_eq_true rfl, Nat.le_of_ble_eq_true rfl⟩) hS (fun q h => h) (fun H locs hP1 hz hk hS => ?_)
  exact W.iret hx hb hr (fun t ht hW => ⟨rfl, by rw [ht]; exact hP1, hS.F ht⟩) hS.2.2 dL_call_220

theorem c_call_19 (l : Launch) (G : GG) (b : Nat) (X : Cx) (u v w : Int32) (r : Int32) (X1 : Cx) (hst : l.stackTraces = false) (hq : pv (h_X6_save X u) X = (r, X1)) : Met l yL_call wsL_call ({ frames := 11, cells := 1, slots := 6, locals := 186 }) (PcN G (blk b (b + 170)) [.ref b, .int 19, .int u, .int v, .int w] (Cb G b X)) (QM (some (.int r)) (Cb G b X1) (blk b (b + 170))) 1 6 (blk b (b + 170)) := by
  have h := c_call0_19 l G b X u v w hst
  rw [hq] at h
  exact h

set_option maxHeartbeats 4000000 in
set_option maxRecDepth 100000 in
theorem c_call0_20 (l : Launch) (G : GG) (b : Nat) (X : Cx) (u v w : Int32) (hst : l.stackTraces = false) : Met l yL_call wsL_call ({ frames := 11, cells := 1, slots := 6, locals := 186 }) (PcN G (blk b (b + 170)) [.ref b, .int 20, .int u, .int v, .int w] (Cb G b X)) (QM (some (.int (pv (h_X6_restore X u) X).1)) (Cb G b (pv (h_X6_restore X u) X).2) (blk b (b + 170))) 1 6 (blk b (b + 170)) := by
  refine metN (cc := cL_call) (maxL := 5) (ret := (some .int)) (by decide) rfl ?_
  intro p e s m below meth cd hx hb hr hml hown hts hlocks hP hO hTh hN
  have hS : va_S (blk b (b + 170)) s.heap s.heap [] := va_S.rf
  have hl := lv_entry ([.ref b, .int 20, .int u, .int v, .int w]) (n := 5) (Nat.le_of_ble_eq_true rfl)
  rw [lg_entry_eq]
  generalize (lg_sl ([.ref b, .int 20, .int u, .int v, .int w]) ++ List.replicate (5 - (lg_sl ([.ref b, .int 20, .int u, .int v, .int w])).length) Slot.unset).toArray = ls at hl ⊢
  have hl : lv_has ls 5 [(0, .ref b), (1, .int 20), (2, .int u), (3, .int v), (4, .int w)] := hl
  refine lv_iload_n hx hb dL_call_0 rfl (lv_at hl 1 rfl) ?_
  refine lv_tableOut (tgt := 221) hx hb dL_call_1 (by decide) (by decide) ?_
  refine lv_aload_n hx hb dL_call_221 rfl (lv_at hl 0 rfl) ?_
  refine lv_iload_n hx hb dL_call_222 rfl (lv_at hl 2 rfl) ?_
  refine cl_mx (xSW (A := (blk b (b + 170))) (As := [.ref b, .int u]) (rest := []) ⟨hx, hb, hml, hown, hts⟩ (c_L_tryBack l G b X u hst) (vx_cwSW 2 hts gL_call_L_tryBack rfl rfl rfl (by decide +kernel) ⟨Nat.le_of_ble_eq_true rfl, Nat.le_of_ble_eq_true rfl⟩) hP hO (fun U hU hW => hTh.warm hW hU) hN rfl hl.1 (Nat.le_of_ble_eq_true rfl) dL_call_223 ⟨Nat.le_of_ble_eq_true rfl, Nat.le_of_ble_eq_true rfl⟩) hS (fun q h => h) (fun H locs hP1 hz hk hS => ?_)
  exact W.iret hx hb hr (fun t ht hW => ⟨rfl, by rw [ht]; exact hP1, hS.F ht⟩) hS.2.2 dL_call_226

theorem c_call_20 (l : Launch) (G : GG) (b : Nat) (X : Cx) (u v w : Int32) (r : Int32) (X1 : Cx) (hst : l.stackTraces = false) (hq : pv (h_X6_restore X u) X = (r, X1)) : Met l yL_call wsL_call ({ frames := 11, cells := 1, slots := 6, locals := 186 }) (PcN G (blk b (b + 170)) [.ref b, .int 20, .int u, .int v, .int w] (Cb G b X)) (QM (some (.int r)) (Cb G b X1) (blk b (b + 170))) 1 6 (blk b (b + 170)) := by
  have h := c_call0_20 l G b X u v w hst
  rw [hq] at h
  exact h

theorem w_L_hydrants (l : Launch) (G : GG) (b : Nat) (X : Cx) (x : Int32) (on : Int32) (r : Int32) (X1 : Cx) (hst : l.stackTraces = false) (hO14 : qO (xH X) < 14) (hK14 : qK (xH X) ≤ 14) (hq : pv (h_X6_hydrant X x on) X = (r, X1)) : vx_Met l yL_hydrants wsL_hydrants ({ frames := 10, cells := 1, slots := 6, locals := 162 }) (PcN G (blk b (b + 170)) [.ref b, .int x, .int on] (Cb G b X)) (QM (some (.int r)) (Cb G b X1) (blk b (b + 170))) XNo 1 6 (blk b (b + 170)) := by
  have h := c_L_hydrants l G b X x on hst hO14 hK14
  rw [hq] at h
  exact h

theorem w_L_jams (l : Launch) (G : GG) (b : Nat) (X : Cx) (len : Int32) (sd : Int64) (r : Int32) (X1 : Cx) (hst : l.stackTraces = false) (hq : pv (h_X6_jam X len sd) X = (r, X1)) : vx_Met l yL_jams wsL_jams ({ frames := 10, cells := 1, slots := 6, locals := 163 }) (PcN G (blk b (b + 170)) [.ref b, .int len, .long sd] (Cb G b X)) (QM (some (.int r)) (Cb G b X1) (blk b (b + 170))) XNo 1 6 (blk b (b + 170)) := by
  have h := c_L_jams l G b X len sd hst
  rw [hq] at h
  exact h

theorem w_L_doScript (l : Launch) (G : GG) (b : Nat) (X : Cx) (w : Int32) (sc : Int64) (r : Int32) (X1 : Cx) (hst : l.stackTraces = false) (hq : pv (h_X6_runScript X w sc) X = (r, X1)) : vx_Met l yL_doScript wsL_doScript ({ frames := 9, cells := 1, slots := 6, locals := 169 }) (PcN G (blk b (b + 170)) [.ref b, .int w, .long sc] (Cb G b X)) (QM (some (.int r)) (Cb G b X1) (blk b (b + 170))) XNo 1 6 (blk b (b + 170)) := by
  have h := c_L_doScript l G b X w sc hst
  rw [hq] at h
  exact h

theorem w_L_doSimulate (l : Launch) (G : GG) (b : Nat) (X : Cx) (sd : Int64) (w : Int32) (r : Int32) (X1 : Cx) (hst : l.stackTraces = false) (hq : pv (h_X6_simulate X sd w) X = (r, X1)) : vx_Met l yL_doSimulate wsL_doSimulate ({ frames := 9, cells := 1, slots := 6, locals := 164 }) (PcN G (blk b (b + 170)) [.ref b, .long sd, .int w] (Cb G b X)) (QM (some (.int r)) (Cb G b X1) (blk b (b + 170))) XNo 1 6 (blk b (b + 170)) := by
  have h := c_L_doSimulate l G b X sd w hst
  rw [hq] at h
  exact h

section LR
variable {p : Program} {l : Launch} {e : Env} {R : Room} {s : State} {m : MethodId} {args : Array Value} {below : List Frame} {meth : Method} {c : Code} {H : Heap} {locs : List Loc} {cells slots : Nat} {Q : State → Prop}
variable {cc : ByteArray} {pc : Nat} {ls : Array Slot} {rest st0 : List Value} {a : Array Value} {A : Nat → Prop} {H0 : Heap} {mc ms : Nat} {G : GG}
theorem thr_at {A B : Nat → Prop} {s : State} {H : Heap} {locs : List Loc} (hTh : Thr A s) (hS : va_S A s.heap H locs) (hAB : ∀ q, B q → A q) : ∀ U : State, U.heap = H → s.WarmedH U.vm → Thr B U := fun U hU hW => (hTh.kept hW (by rw [hU]; exact hS.2.1)).sub hAB
theorem cb_far {b d : Nat} {Y : Cx} {H1 : Heap} (h : Cb G d Y H) (hk : ∀ q : Nat, q < H.size → ¬ blk b (b + 170) q → H1[q]? = H[q]?) (hd : b + 170 ≤ d ∨ d + 170 ≤ b) : Cb G d Y H1 :=
  cb_out h hk (fun q h1 h2 z => by
    have h3 := z.1
    have h4 := z.2
    omega)
theorem cl_o1 {b : Nat} {r : Int32} {X1 : Cx} (hr : va_Run p l e R s m args below meth c H locs cells slots mc ms (F0 m pc ls st0) rest (QM (some (.int r)) (Cb G b X1) (blk b (b + 170)) a) (blk b (b + 170))) (hS : va_S A H0 H locs) (hA : ∀ q, blk b (b + 170) q → A q)
    (kk : ∀ (H1 : Heap) (locs1 : List Loc), Cb G b X1 H1 → va_S A H0 H1 locs1 → W p l e R s m args below meth c H1 locs1 (cells + mc) (slots + ms) Q (F0 m (pc + 3) ls (.int r :: rest))) : W p l e R s m args below meth c H locs cells slots Q (F0 m pc ls st0) :=
  cl_ci hr hS hA (fun H1 locs1 h _ _ hS1 => kk H1 locs1 h hS1)
theorem cl_o2 {b d : Nat} {r : Int32} {X1 Y : Cx} (hr : va_Run p l e R s m args below meth c H locs cells slots mc ms (F0 m pc ls st0) rest (QM (some (.int r)) (Cb G b X1) (blk b (b + 170)) a) (blk b (b + 170))) (hS : va_S A H0 H locs) (hA : ∀ q, blk b (b + 170) q → A q) (hQ : Cb G d Y H) (hd : b + 170 ≤ d ∨ d + 170 ≤ b)
    (kk : ∀ (H1 : Heap) (locs1 : List Loc), Cb G b X1 H1 → Cb G d Y H1 → va_S A H0 H1 locs1 → W p l e R s m args below meth c H1 locs1 (cells + mc) (slots + ms) Q (F0 m (pc + 3) ls (.int r :: rest))) : W p l e R s m args below meth c H locs cells slots Q (F0 m pc ls st0) :=
  cl_ci hr hS hA (fun H1 locs1 h _ hk hS1 => kk H1 locs1 h (cb_far hQ hk hd) hS1)
theorem cl_w1 {b : Nat} {r : Int32} {X1 : Cx} (hr : vx_Run p l e R s m args below meth c H locs cells slots mc ms (F0 m pc ls st0) rest (QM (some (.int r)) (Cb G b X1) (blk b (b + 170)) a) XNo (blk b (b + 170))) (hS : va_S A H0 H locs) (hA : ∀ q, blk b (b + 170) q → A q)
    (kk : ∀ (H1 : Heap) (locs1 : List Loc), Cb G b X1 H1 → va_S A H0 H1 locs1 → W p l e R s m args below meth c H1 locs1 (cells + mc) (slots + ms) Q (F0 m (pc + 3) ls (.int r :: rest))) : W p l e R s m args below meth c H locs cells slots Q (F0 m pc ls st0) :=
  cl_mx hr hS hA (fun H1 locs1 h _ _ hS1 => kk H1 locs1 h hS1)
theorem cl_w2 {b d : Nat} {r : Int32} {X1 Y : Cx} (hr : vx_Run p l e R s m args below meth c H locs cells slots mc ms (F0 m pc ls st0) rest (QM (some (.int r)) (Cb G b X1) (blk b (b + 170)) a) XNo (blk b (b + 170))) (hS : va_S A H0 H locs) (hA : ∀ q, blk b (b + 170) q → A q) (hQ : Cb G d Y H) (hd : b + 170 ≤ d ∨ d + 170 ≤ b)
    (kk : ∀ (H1 : Heap) (locs1 : List Loc), Cb G b X1 H1 → Cb G d Y H1 → va_S A H0 H1 locs1 → W p l e R s m args below meth c H1 locs1 (cells + mc) (slots + ms) Q (F0 m (pc + 3) ls (.int r :: rest))) : W p l e R s m args below meth c H locs cells slots Q (F0 m pc ls st0) :=
  cl_mx hr hS hA (fun H1 locs1 h _ hk hS1 => kk H1 locs1 h (cb_far hQ hk hd) hS1)
end LR
