set_option maxHeartbeats 4000000 in
set_option maxRecDepth 100000 in
theorem c_L_append (l : Launch) (G : GG) (b o : Nat) (S : Wx) (c : Int32) (hst : l.stackTraces = false) (hd : o < b ∨ b + 170 ≤ o) : vx_Met l yL_append wsL_append ({ frames := 9, cells := 1, slots := 6, locals := 141 }) (PcN G (wfr b o) [.ref b, .int c, .ref o] (WX G b o S)) (QM (some (.int (wr "java/lang/IllegalArgumentException" (h_X6_append S.1 c) S).1)) (WX G b o (wr "java/lang/IllegalArgumentException" (h_X6_append S.1 c) S).2) (wfr b o)) XNo 1 6 (wfr b o) := by
  have hth : ∀ E, h_X6_append S.1 c = .inl E → E = "java/lang/IllegalArgumentException" ∨ E = "java/lang/IllegalStateException" := fun E => th_append S.1 c E
  refine metW (cc := cL_append) (maxL := 4) (ret := (some .int)) (hh := [(0, 9, 12, 13), (0, 9, 15, 15)]) (by decide) rfl ?_
  intro p e s m below meth cd hx hb hr hml hown hts hlocks htab hP hO hTh hN
  have hS : va_S (wfr b o) s.heap s.heap [] := va_S.rf
  have hl := lv_entry ([.ref b, .int c, .ref o]) (n := 4) (Nat.le_of_ble_eq_true rfl)
  rw [lg_entry_eq]
  generalize (lg_sl ([.ref b, .int c, .ref o]) ++ List.replicate (4 - (lg_sl ([.ref b, .int c, .ref o])).length) Slot.unset).toArray = ls at hl ⊢
  have hl : lv_has ls 4 [(0, .ref b), (1, .int c), (2, .ref o)] := hl
  refine lv_aload_n hx hb dL_append_0 rfl (lv_at hl 2 rfl) ?_
  refine lv_iconst (v := 0) hx hb dL_append_1 (by decide) ?_
  refine lv_aload_n hx hb dL_append_2 rfl (lv_at hl 0 rfl) ?_
  refine lv_iload_n hx hb dL_append_3 rfl (lv_at hl 1 rfl) ?_
  refine cl_xi (xW (A := blk b (b + 170)) (As := [.int c]) (rest := [.int 0, .ref o]) ⟨hx, hb, hml, hown, hts⟩ (c_X6_append l G b S.1 c hst) (cwV 1 hts gL_append_X6_append rfl rfl rfl (by decide +kernel) ⟨Nat.le_of_ble_eq_true rfl, Nat.le_of_ble_eq_true rfl⟩) (cb_recv hO hP.1) hP.1 hO (fun U hU hW => (hTh.warm hW hU).sub fun q h => .inl h) rfl hl.1 (Nat.le_of_ble_eq_true rfl) dL_append_4 ⟨Nat.le_of_ble_eq_true rfl, Nat.le_of_ble_eq_true rfl⟩) (fun r X9 H1 L hE hPx hs hk hL => ?_) (fun E ce q9 H1 L hE hs hk hL hce hcv hcl => ?_)
  · have hS := S_app hS hs hk hL (fun q h => .inl h)
    have hPo : va_P G.1 vwCl (lgW G o S.2) H1 := P_o (n := 1) hP.2 Adr.one rfl hk (fun q h1 h2 z => by have h3 := z.1; have h4 := z.2; omega)
    refine lv_i2l (v := r.toInt64) hx hb dL_append_7 rfl ?_
    refine va_last (ws := lgW G o S.2 ++ (stW G (b + 12) (xR X9) ++ cbR G b X9)) hx hb hO.1 (P_app.mpr ⟨hPo, cb_fl hPx⟩) (wx_D hd) hS 0 4 rfl rfl (by unfold vp_in; decide) dL_append_8 (fun H2 locs2 hP2 hD2 hS2 => ?_)
    have hP3 := wx_st hP2
    refine lv_goto (tgt := 18) hx hb dL_append_9 (by decide) ?_
    refine lv_iconst (v := 0) hx hb dL_append_18 (by decide) ?_
    have hw0 : wr "java/lang/IllegalArgumentException" (h_X6_append S.1 c) S = (0, (X9, vp_updL S.2 (0 : Int32).toNatClampNeg r.toInt64)) := by rw [hE]; rfl
    exact vx_ret (W.iret hx hb hr (fun t ht hW => ⟨by rw [hw0], by rw [hw0, ht]; exact hP3, hS2.F ht⟩) hS2.2.2 dL_append_19)
  · have hS := S_app (fr := blk b (b + 170)) hS hs (fun q h _ => hk q h) (fun z hz => (hL z hz)) (fun q h => .inl h)
    have hPb : WX G b o S H1 := ⟨cb_out (fr := noA) hP.1 (fun q h _ => hk q h) (fun _ _ _ z => z), P_o (n := 1) (fr := noA) hP.2 Adr.one rfl (fun q h _ => hk q h) (fun _ _ _ z => z)⟩
    rcases hth E hE with rfl | rfl
    · refine vx_catch (name := "java/lang/IllegalArgumentException") (E := "java/lang/IllegalArgumentException") hown [] ⟨0, 9, 12, 13⟩ [⟨0, 9, 15, 15⟩] htab (fun z hz => absurd hz List.not_mem_nil) (by decide) (by decide) (hts (.classLink RL 13 "java/lang/IllegalArgumentException") (by decide +kernel)) (hTh.w _ (List.mem_of_getElem? (i := 3) rfl)) hce hcv hcl ?_
      refine lv_astore_n (lv' := [(3, .ref q9), (0, .ref b), (1, .int c), (2, .ref o)]) hx hb dL_append_12 rfl hl (by decide) rfl (fun ls hl => ?_)
      refine lv_iconst (v := 1) hx hb dL_append_13 (by decide) ?_
      have hw0 : wr "java/lang/IllegalArgumentException" (h_X6_append S.1 c) S = (1, S) := by rw [hE, wr]; rw [if_pos rfl]
      exact vx_ret (W.iret hx hb hr (fun t ht hW => ⟨by rw [hw0], by rw [hw0, ht]; exact hPb, hS.F ht⟩) hS.2.2 dL_append_14)
    · refine vx_catch (name := "java/lang/IllegalStateException") (E := "java/lang/IllegalStateException") hown [⟨0, 9, 12, 13⟩] ⟨0, 9, 15, 15⟩ [] htab (fun z hz => by rw [List.mem_singleton.mp hz]; exact .inr ⟨by decide, "java/lang/IllegalArgumentException", hts (.classLink RL 13 "java/lang/IllegalArgumentException") (by decide +kernel), (hN _ (List.mem_of_getElem? (i := 0) rfl))⟩) (by decide) (by decide) (hts (.classLink RL 15 "java/lang/IllegalStateException") (by decide +kernel)) (hTh.w _ (List.mem_of_getElem? (i := 4) rfl)) hce hcv hcl ?_
      refine lv_astore_n (lv' := [(3, .ref q9), (0, .ref b), (1, .int c), (2, .ref o)]) hx hb dL_append_15 rfl hl (by decide) rfl (fun ls hl => ?_)
      refine lv_iconst (v := 2) hx hb dL_append_16 (by decide) ?_
      have hw0 : wr "java/lang/IllegalArgumentException" (h_X6_append S.1 c) S = (2, S) := by rw [hE, wr]; rw [if_neg (by decide)]
      exact vx_ret (W.iret hx hb hr (fun t ht hW => ⟨by rw [hw0], by rw [hw0, ht]; exact hPb, hS.F ht⟩) hS.2.2 dL_append_17)

set_option maxHeartbeats 4000000 in
set_option maxRecDepth 100000 in
theorem c_L_load (l : Launch) (G : GG) (b o : Nat) (S : Wx) (hst : l.stackTraces = false) (hd : o < b ∨ b + 170 ≤ o) : vx_Met l yL_load wsL_load ({ frames := 9, cells := 1, slots := 6, locals := 161 }) (PcN G (wfr b o) [.ref b, .ref o] (WX G b o S)) (QM (some (.int (wr "java/lang/IllegalStateException" (h_X6_load S.1) S).1)) (WX G b o (wr "java/lang/IllegalStateException" (h_X6_load S.1) S).2) (wfr b o)) XNo 1 6 (wfr b o) := by
  have hth : ∀ E, h_X6_load S.1 = .inl E → E = "java/lang/IllegalStateException" := fun E => th_load S.1 E
  refine metW (cc := cL_load) (maxL := 3) (ret := (some .int)) (hh := [(0, 8, 11, 15)]) (by decide) rfl ?_
  intro p e s m below meth cd hx hb hr hml hown hts hlocks htab hP hO hTh hN
  have hS : va_S (wfr b o) s.heap s.heap [] := va_S.rf
  have hl := lv_entry ([.ref b, .ref o]) (n := 3) (Nat.le_of_ble_eq_true rfl)
  rw [lg_entry_eq]
  generalize (lg_sl ([.ref b, .ref o]) ++ List.replicate (3 - (lg_sl ([.ref b, .ref o])).length) Slot.unset).toArray = ls at hl ⊢
  have hl : lv_has ls 3 [(0, .ref b), (1, .ref o)] := hl
  refine lv_aload_n hx hb dL_load_0 rfl (lv_at hl 1 rfl) ?_
  refine lv_iconst (v := 0) hx hb dL_load_1 (by decide) ?_
  refine lv_aload_n hx hb dL_load_2 rfl (lv_at hl 0 rfl) ?_
  refine cl_xi (xW (A := blk b (b + 170)) (As := []) (rest := [.int 0, .ref o]) ⟨hx, hb, hml, hown, hts⟩ (c_X6_load l G b S.1 hst) (cwV 0 hts gL_load_X6_load rfl rfl rfl (by decide +kernel) ⟨Nat.le_of_ble_eq_true rfl, Nat.le_of_ble_eq_true rfl⟩) (cb_recv hO hP.1) hP.1 hO (fun U hU hW => (hTh.warm hW hU).sub fun q h => .inl h) rfl hl.1 (Nat.le_of_ble_eq_true rfl) dL_load_3 ⟨Nat.le_of_ble_eq_true rfl, Nat.le_of_ble_eq_true rfl⟩) (fun r X9 H1 L hE hPx hs hk hL => ?_) (fun E ce q9 H1 L hE hs hk hL hce hcv hcl => ?_)
  · have hS := S_app hS hs hk hL (fun q h => .inl h)
    have hPo : va_P G.1 vwCl (lgW G o S.2) H1 := P_o (n := 1) hP.2 Adr.one rfl hk (fun q h1 h2 z => by have h3 := z.1; have h4 := z.2; omega)
    refine lv_i2l (v := r.toInt64) hx hb dL_load_6 rfl ?_
    refine va_last (ws := lgW G o S.2 ++ (stW G (b + 12) (xR X9) ++ cbR G b X9)) hx hb hO.1 (P_app.mpr ⟨hPo, cb_fl hPx⟩) (wx_D hd) hS 0 4 rfl rfl (by unfold vp_in; decide) dL_load_7 (fun H2 locs2 hP2 hD2 hS2 => ?_)
    have hP3 := wx_st hP2
    refine lv_goto (tgt := 14) hx hb dL_load_8 (by decide) ?_
    refine lv_iconst (v := 0) hx hb dL_load_14 (by decide) ?_
    have hw0 : wr "java/lang/IllegalStateException" (h_X6_load S.1) S = (0, (X9, vp_updL S.2 (0 : Int32).toNatClampNeg r.toInt64)) := by rw [hE]; rfl
    exact vx_ret (W.iret hx hb hr (fun t ht hW => ⟨by rw [hw0], by rw [hw0, ht]; exact hP3, hS2.F ht⟩) hS2.2.2 dL_load_15)
  · have hS := S_app (fr := blk b (b + 170)) hS hs (fun q h _ => hk q h) (fun z hz => (hL z hz)) (fun q h => .inl h)
    have hPb : WX G b o S H1 := ⟨cb_out (fr := noA) hP.1 (fun q h _ => hk q h) (fun _ _ _ z => z), P_o (n := 1) (fr := noA) hP.2 Adr.one rfl (fun q h _ => hk q h) (fun _ _ _ z => z)⟩
    obtain rfl := hth E hE
    refine vx_catch (name := "java/lang/IllegalStateException") (E := "java/lang/IllegalStateException") hown [] ⟨0, 8, 11, 15⟩ [] htab (fun z hz => absurd hz List.not_mem_nil) (by decide) (by decide) (hts (.classLink RL 15 "java/lang/IllegalStateException") (by decide +kernel)) (hTh.w _ (List.mem_of_getElem? (i := 4) rfl)) hce hcv hcl ?_
    refine lv_astore_n (lv' := [(2, .ref q9), (0, .ref b), (1, .ref o)]) hx hb dL_load_11 rfl hl (by decide) rfl (fun ls hl => ?_)
    refine lv_iconst (v := 1) hx hb dL_load_12 (by decide) ?_
    have hw0 : wr "java/lang/IllegalStateException" (h_X6_load S.1) S = (1, S) := by rw [hE, wr]; rw [if_pos rfl]
    exact vx_ret (W.iret hx hb hr (fun t ht hW => ⟨by rw [hw0], by rw [hw0, ht]; exact hPb, hS.F ht⟩) hS.2.2 dL_load_13)

set_option maxHeartbeats 4000000 in
set_option maxRecDepth 100000 in
theorem c_L_about (l : Launch) (G : GG) (b o : Nat) (S : Wx) (w : Int32) (hst : l.stackTraces = false) (hd : o < b ∨ b + 170 ≤ o) : vx_Met l yL_about wsL_about ({ frames := 9, cells := 1, slots := 6, locals := 141 }) (PcN G (wfr b o) [.ref b, .int w, .ref o] (WX G b o S)) (QM (some (.int (wr "java/lang/IllegalArgumentException" (h_X6_about S.1 w) S).1)) (WX G b o (wr "java/lang/IllegalArgumentException" (h_X6_about S.1 w) S).2) (wfr b o)) XNo 1 6 (wfr b o) := by
  have hth : ∀ E, h_X6_about S.1 w = .inl E → E = "java/lang/IllegalArgumentException" := fun E => th_about S.1 w E
  refine metW (cc := cL_about) (maxL := 4) (ret := (some .int)) (hh := [(0, 9, 12, 13)]) (by decide) rfl ?_
  intro p e s m below meth cd hx hb hr hml hown hts hlocks htab hP hO hTh hN
  have hS : va_S (wfr b o) s.heap s.heap [] := va_S.rf
  have hl := lv_entry ([.ref b, .int w, .ref o]) (n := 4) (Nat.le_of_ble_eq_true rfl)
  rw [lg_entry_eq]
  generalize (lg_sl ([.ref b, .int w, .ref o]) ++ List.replicate (4 - (lg_sl ([.ref b, .int w, .ref o])).length) Slot.unset).toArray = ls at hl ⊢
  have hl : lv_has ls 4 [(0, .ref b), (1, .int w), (2, .ref o)] := hl
  refine lv_aload_n hx hb dL_about_0 rfl (lv_at hl 2 rfl) ?_
  refine lv_iconst (v := 0) hx hb dL_about_1 (by decide) ?_
  refine lv_aload_n hx hb dL_about_2 rfl (lv_at hl 0 rfl) ?_
  refine lv_iload_n hx hb dL_about_3 rfl (lv_at hl 1 rfl) ?_
  refine cl_xi (xW (A := blk b (b + 170)) (As := [.int w]) (rest := [.int 0, .ref o]) ⟨hx, hb, hml, hown, hts⟩ (c_X6_about l G b S.1 w hst) (cwV 1 hts gL_about_X6_about rfl rfl rfl (by decide +kernel) ⟨Nat.le_of_ble_eq_true rfl, Nat.le_of_ble_eq_true rfl⟩) (cb_recv hO hP.1) hP.1 hO (fun U hU hW => (hTh.warm hW hU).sub fun q h => .inl h) rfl hl.1 (Nat.le_of_ble_eq_true rfl) dL_about_4 ⟨Nat.le_of_ble_eq_true rfl, Nat.le_of_ble_eq_true rfl⟩) (fun r X9 H1 L hE hPx hs hk hL => ?_) (fun E ce q9 H1 L hE hs hk hL hce hcv hcl => ?_)
  · have hS := S_app hS hs hk hL (fun q h => .inl h)
    have hPo : va_P G.1 vwCl (lgW G o S.2) H1 := P_o (n := 1) hP.2 Adr.one rfl hk (fun q h1 h2 z => by have h3 := z.1; have h4 := z.2; omega)
    refine lv_i2l (v := r.toInt64) hx hb dL_about_7 rfl ?_
    refine va_last (ws := lgW G o S.2 ++ (stW G (b + 12) (xR X9) ++ cbR G b X9)) hx hb hO.1 (P_app.mpr ⟨hPo, cb_fl hPx⟩) (wx_D hd) hS 0 4 rfl rfl (by unfold vp_in; decide) dL_about_8 (fun H2 locs2 hP2 hD2 hS2 => ?_)
    have hP3 := wx_st hP2
    refine lv_goto (tgt := 15) hx hb dL_about_9 (by decide) ?_
    refine lv_iconst (v := 0) hx hb dL_about_15 (by decide) ?_
    have hw0 : wr "java/lang/IllegalArgumentException" (h_X6_about S.1 w) S = (0, (X9, vp_updL S.2 (0 : Int32).toNatClampNeg r.toInt64)) := by rw [hE]; rfl
    exact vx_ret (W.iret hx hb hr (fun t ht hW => ⟨by rw [hw0], by rw [hw0, ht]; exact hP3, hS2.F ht⟩) hS2.2.2 dL_about_16)
  · have hS := S_app (fr := blk b (b + 170)) hS hs (fun q h _ => hk q h) (fun z hz => (hL z hz)) (fun q h => .inl h)
    have hPb : WX G b o S H1 := ⟨cb_out (fr := noA) hP.1 (fun q h _ => hk q h) (fun _ _ _ z => z), P_o (n := 1) (fr := noA) hP.2 Adr.one rfl (fun q h _ => hk q h) (fun _ _ _ z => z)⟩
    obtain rfl := hth E hE
    refine vx_catch (name := "java/lang/IllegalArgumentException") (E := "java/lang/IllegalArgumentException") hown [] ⟨0, 9, 12, 13⟩ [] htab (fun z hz => absurd hz List.not_mem_nil) (by decide) (by decide) (hts (.classLink RL 13 "java/lang/IllegalArgumentException") (by decide +kernel)) (hTh.w _ (List.mem_of_getElem? (i := 3) rfl)) hce hcv hcl ?_
    refine lv_astore_n (lv' := [(3, .ref q9), (0, .ref b), (1, .int w), (2, .ref o)]) hx hb dL_about_12 rfl hl (by decide) rfl (fun ls hl => ?_)
    refine lv_iconst (v := 1) hx hb dL_about_13 (by decide) ?_
    have hw0 : wr "java/lang/IllegalArgumentException" (h_X6_about S.1 w) S = (1, S) := by rw [hE, wr]; rw [if_pos rfl]
    exact vx_ret (W.iret hx hb hr (fun t ht hW => ⟨by rw [hw0], by rw [hw0, ht]; exact hPb, hS.F ht⟩) hS.2.2 dL_about_14)

set_option maxHeartbeats 4000000 in
set_option maxRecDepth 100000 in
theorem c_L_carOf (l : Launch) (G : GG) (b o : Nat) (S : Wx) (c : Int32) (w : Int32) (hst : l.stackTraces = false) (hd : o < b ∨ b + 170 ≤ o) : vx_Met l yL_carOf wsL_carOf ({ frames := 10, cells := 1, slots := 6, locals := 163 }) (PcN G (wfr b o) [.ref b, .int c, .int w, .ref o] (WX G b o S)) (QM (some (.int (wr "java/lang/IndexOutOfBoundsException" (h_X6_carOf S.1 c w) S).1)) (WX G b o (wr "java/lang/IndexOutOfBoundsException" (h_X6_carOf S.1 c w) S).2) (wfr b o)) XNo 1 6 (wfr b o) := by
  have hth : ∀ E, h_X6_carOf S.1 c w = .inl E → E = "java/lang/IndexOutOfBoundsException" ∨ E = "java/lang/IllegalArgumentException" := fun E => th_carOf S.1 c w E
  refine metW (cc := cL_carOf) (maxL := 5) (ret := (some .int)) (hh := [(0, 10, 13, 28), (0, 10, 17, 13)]) (by decide) rfl ?_
  intro p e s m below meth cd hx hb hr hml hown hts hlocks htab hP hO hTh hN
  have hS : va_S (wfr b o) s.heap s.heap [] := va_S.rf
  have hl := lv_entry ([.ref b, .int c, .int w, .ref o]) (n := 5) (Nat.le_of_ble_eq_true rfl)
  rw [lg_entry_eq]
  generalize (lg_sl ([.ref b, .int c, .int w, .ref o]) ++ List.replicate (5 - (lg_sl ([.ref b, .int c, .int w, .ref o])).length) Slot.unset).toArray = ls at hl ⊢
  have hl : lv_has ls 5 [(0, .ref b), (1, .int c), (2, .int w), (3, .ref o)] := hl
  refine lv_aload_n hx hb dL_carOf_0 rfl (lv_at hl 3 rfl) ?_
  refine lv_iconst (v := 0) hx hb dL_carOf_1 (by decide) ?_
  refine lv_aload_n hx hb dL_carOf_2 rfl (lv_at hl 0 rfl) ?_
  refine lv_iload_n hx hb dL_carOf_3 rfl (lv_at hl 1 rfl) ?_
  refine lv_iload_n hx hb dL_carOf_4 rfl (lv_at hl 2 rfl) ?_
  refine cl_xi (xW (A := blk b (b + 170)) (As := [.int c, .int w]) (rest := [.int 0, .ref o]) ⟨hx, hb, hml, hown, hts⟩ (c_X6_carOf l G b S.1 c w hst) (cwV 2 hts gL_carOf_X6_carOf rfl rfl rfl (by decide +kernel) ⟨Nat.le_of_ble_eq_true rfl, Nat.le_of_ble_eq_true rfl⟩) (cb_recv hO hP.1) hP.1 hO (fun U hU hW => (hTh.warm hW hU).sub fun q h => .inl h) rfl hl.1 (Nat.le_of_ble_eq_true rfl) dL_carOf_5 ⟨Nat.le_of_ble_eq_true rfl, Nat.le_of_ble_eq_true rfl⟩) (fun r X9 H1 L hE hPx hs hk hL => ?_) (fun E ce q9 H1 L hE hs hk hL hce hcv hcl => ?_)
  · have hS := S_app hS hs hk hL (fun q h => .inl h)
    have hPo : va_P G.1 vwCl (lgW G o S.2) H1 := P_o (n := 1) hP.2 Adr.one rfl hk (fun q h1 h2 z => by have h3 := z.1; have h4 := z.2; omega)
    refine lv_i2l (v := r.toInt64) hx hb dL_carOf_8 rfl ?_
    refine va_last (ws := lgW G o S.2 ++ (stW G (b + 12) (xR X9) ++ cbR G b X9)) hx hb hO.1 (P_app.mpr ⟨hPo, cb_fl hPx⟩) (wx_D hd) hS 0 4 rfl rfl (by unfold vp_in; decide) dL_carOf_9 (fun H2 locs2 hP2 hD2 hS2 => ?_)
    have hP3 := wx_st hP2
    refine lv_goto (tgt := 21) hx hb dL_carOf_10 (by decide) ?_
    refine lv_iconst (v := 0) hx hb dL_carOf_21 (by decide) ?_
    have hw0 : wr "java/lang/IndexOutOfBoundsException" (h_X6_carOf S.1 c w) S = (0, (X9, vp_updL S.2 (0 : Int32).toNatClampNeg r.toInt64)) := by rw [hE]; rfl
    exact vx_ret (W.iret hx hb hr (fun t ht hW => ⟨by rw [hw0], by rw [hw0, ht]; exact hP3, hS2.F ht⟩) hS2.2.2 dL_carOf_22)
  · have hS := S_app (fr := blk b (b + 170)) hS hs (fun q h _ => hk q h) (fun z hz => (hL z hz)) (fun q h => .inl h)
    have hPb : WX G b o S H1 := ⟨cb_out (fr := noA) hP.1 (fun q h _ => hk q h) (fun _ _ _ z => z), P_o (n := 1) (fr := noA) hP.2 Adr.one rfl (fun q h _ => hk q h) (fun _ _ _ z => z)⟩
    rcases hth E hE with rfl | rfl
    · refine vx_catch (name := "java/lang/IndexOutOfBoundsException") (E := "java/lang/IndexOutOfBoundsException") hown [] ⟨0, 10, 13, 28⟩ [⟨0, 10, 17, 13⟩] htab (fun z hz => absurd hz List.not_mem_nil) (by decide) (by decide) (hts (.classLink RL 28 "java/lang/IndexOutOfBoundsException") (by decide +kernel)) (hTh.w _ (List.mem_of_getElem? (i := 5) rfl)) hce hcv hcl ?_
      refine lv_astore (lv' := [(4, .ref q9), (0, .ref b), (1, .int c), (2, .int w), (3, .ref o)]) hx hb dL_carOf_13 hl (by decide) rfl (fun ls hl => ?_)
      refine lv_iconst (v := 1) hx hb dL_carOf_15 (by decide) ?_
      have hw0 : wr "java/lang/IndexOutOfBoundsException" (h_X6_carOf S.1 c w) S = (1, S) := by rw [hE, wr]; rw [if_pos rfl]
      exact vx_ret (W.iret hx hb hr (fun t ht hW => ⟨by rw [hw0], by rw [hw0, ht]; exact hPb, hS.F ht⟩) hS.2.2 dL_carOf_16)
    · refine vx_catch (name := "java/lang/IllegalArgumentException") (E := "java/lang/IllegalArgumentException") hown [⟨0, 10, 13, 28⟩] ⟨0, 10, 17, 13⟩ [] htab (fun z hz => by rw [List.mem_singleton.mp hz]; exact .inr ⟨by decide, "java/lang/IndexOutOfBoundsException", hts (.classLink RL 28 "java/lang/IndexOutOfBoundsException") (by decide +kernel), (hN _ (List.mem_of_getElem? (i := 1) rfl))⟩) (by decide) (by decide) (hts (.classLink RL 13 "java/lang/IllegalArgumentException") (by decide +kernel)) (hTh.w _ (List.mem_of_getElem? (i := 3) rfl)) hce hcv hcl ?_
      refine lv_astore (lv' := [(4, .ref q9), (0, .ref b), (1, .int c), (2, .int w), (3, .ref o)]) hx hb dL_carOf_17 hl (by decide) rfl (fun ls hl => ?_)
      refine lv_iconst (v := 2) hx hb dL_carOf_19 (by decide) ?_
      have hw0 : wr "java/lang/IndexOutOfBoundsException" (h_X6_carOf S.1 c w) S = (2, S) := by rw [hE, wr]; rw [if_neg (by decide)]
      exact vx_ret (W.iret hx hb hr (fun t ht hW => ⟨by rw [hw0], by rw [hw0, ht]; exact hPb, hS.F ht⟩) hS.2.2 dL_carOf_20)

set_option maxHeartbeats 4000000 in
set_option maxRecDepth 100000 in
theorem c_L_at (l : Launch) (G : GG) (b o : Nat) (S : Wx) (x : Int32) (hst : l.stackTraces = false) (hd : o < b ∨ b + 170 ≤ o) : vx_Met l yL_at wsL_at ({ frames := 10, cells := 1, slots := 6, locals := 161 }) (PcN G (wfr b o) [.ref b, .int x, .ref o] (WX G b o S)) (QM (some (.int (wr "java/lang/IndexOutOfBoundsException" (h_X6_at S.1 x) S).1)) (WX G b o (wr "java/lang/IndexOutOfBoundsException" (h_X6_at S.1 x) S).2) (wfr b o)) XNo 1 6 (wfr b o) := by
  have hth : ∀ E, h_X6_at S.1 x = .inl E → E = "java/lang/IndexOutOfBoundsException" := fun E => th_at S.1 x E
  refine metW (cc := cL_at) (maxL := 4) (ret := (some .int)) (hh := [(0, 9, 12, 28)]) (by decide) rfl ?_
  intro p e s m below meth cd hx hb hr hml hown hts hlocks htab hP hO hTh hN
  have hS : va_S (wfr b o) s.heap s.heap [] := va_S.rf
  have hl := lv_entry ([.ref b, .int x, .ref o]) (n := 4) (Nat.le_of_ble_eq_true rfl)
  rw [lg_entry_eq]
  generalize (lg_sl ([.ref b, .int x, .ref o]) ++ List.replicate (4 - (lg_sl ([.ref b, .int x, .ref o])).length) Slot.unset).toArray = ls at hl ⊢
  have hl : lv_has ls 4 [(0, .ref b), (1, .int x), (2, .ref o)] := hl
  refine lv_aload_n hx hb dL_at_0 rfl (lv_at hl 2 rfl) ?_
  refine lv_iconst (v := 0) hx hb dL_at_1 (by decide) ?_
  refine lv_aload_n hx hb dL_at_2 rfl (lv_at hl 0 rfl) ?_
  refine lv_iload_n hx hb dL_at_3 rfl (lv_at hl 1 rfl) ?_
  refine cl_xi (xW (A := blk b (b + 170)) (As := [.int x]) (rest := [.int 0, .ref o]) ⟨hx, hb, hml, hown, hts⟩ (c_X6_at l G b S.1 x hst) (cwV 1 hts gL_at_X6_at rfl rfl rfl (by decide +kernel) ⟨Nat.le_of_ble_eq_true rfl, Nat.le_of_ble_eq_true rfl⟩) (cb_recv hO hP.1) hP.1 hO (fun U hU hW => (hTh.warm hW hU).sub fun q h => .inl h) rfl hl.1 (Nat.le_of_ble_eq_true rfl) dL_at_4 ⟨Nat.le_of_ble_eq_true rfl, Nat.le_of_ble_eq_true rfl⟩) (fun r X9 H1 L hE hPx hs hk hL => ?_) (fun E ce q9 H1 L hE hs hk hL hce hcv hcl => ?_)
  · have hS := S_app hS hs hk hL (fun q h => .inl h)
    have hPo : va_P G.1 vwCl (lgW G o S.2) H1 := P_o (n := 1) hP.2 Adr.one rfl hk (fun q h1 h2 z => by have h3 := z.1; have h4 := z.2; omega)
    refine lv_i2l (v := r.toInt64) hx hb dL_at_7 rfl ?_
    refine va_last (ws := lgW G o S.2 ++ (stW G (b + 12) (xR X9) ++ cbR G b X9)) hx hb hO.1 (P_app.mpr ⟨hPo, cb_fl hPx⟩) (wx_D hd) hS 0 4 rfl rfl (by unfold vp_in; decide) dL_at_8 (fun H2 locs2 hP2 hD2 hS2 => ?_)
    have hP3 := wx_st hP2
    refine lv_goto (tgt := 15) hx hb dL_at_9 (by decide) ?_
    refine lv_iconst (v := 0) hx hb dL_at_15 (by decide) ?_
    have hw0 : wr "java/lang/IndexOutOfBoundsException" (h_X6_at S.1 x) S = (0, (X9, vp_updL S.2 (0 : Int32).toNatClampNeg r.toInt64)) := by rw [hE]; rfl
    exact vx_ret (W.iret hx hb hr (fun t ht hW => ⟨by rw [hw0], by rw [hw0, ht]; exact hP3, hS2.F ht⟩) hS2.2.2 dL_at_16)
  · have hS := S_app (fr := blk b (b + 170)) hS hs (fun q h _ => hk q h) (fun z hz => (hL z hz)) (fun q h => .inl h)
    have hPb : WX G b o S H1 := ⟨cb_out (fr := noA) hP.1 (fun q h _ => hk q h) (fun _ _ _ z => z), P_o (n := 1) (fr := noA) hP.2 Adr.one rfl (fun q h _ => hk q h) (fun _ _ _ z => z)⟩
    obtain rfl := hth E hE
    refine vx_catch (name := "java/lang/IndexOutOfBoundsException") (E := "java/lang/IndexOutOfBoundsException") hown [] ⟨0, 9, 12, 28⟩ [] htab (fun z hz => absurd hz List.not_mem_nil) (by decide) (by decide) (hts (.classLink RL 28 "java/lang/IndexOutOfBoundsException") (by decide +kernel)) (hTh.w _ (List.mem_of_getElem? (i := 5) rfl)) hce hcv hcl ?_
    refine lv_astore_n (lv' := [(3, .ref q9), (0, .ref b), (1, .int x), (2, .ref o)]) hx hb dL_at_12 rfl hl (by decide) rfl (fun ls hl => ?_)
    refine lv_iconst (v := 1) hx hb dL_at_13 (by decide) ?_
    have hw0 : wr "java/lang/IndexOutOfBoundsException" (h_X6_at S.1 x) S = (1, S) := by rw [hE, wr]; rw [if_pos rfl]
    exact vx_ret (W.iret hx hb hr (fun t ht hW => ⟨by rw [hw0], by rw [hw0, ht]; exact hPb, hS.F ht⟩) hS.2.2 dL_at_14)

set_option maxHeartbeats 4000000 in
set_option maxRecDepth 100000 in
theorem c_L_gap (l : Launch) (G : GG) (b o : Nat) (S : Wx) (k : Int32) (w : Int32) (hst : l.stackTraces = false) (hd : o < b ∨ b + 170 ≤ o) : vx_Met l yL_gap wsL_gap ({ frames := 10, cells := 1, slots := 6, locals := 163 }) (PcN G (wfr b o) [.ref b, .int k, .int w, .ref o] (WX G b o S)) (QM (some (.int (wr "java/lang/IndexOutOfBoundsException" (h_X6_gap S.1 k w) S).1)) (WX G b o (wr "java/lang/IndexOutOfBoundsException" (h_X6_gap S.1 k w) S).2) (wfr b o)) XNo 1 6 (wfr b o) := by
  have hth : ∀ E, h_X6_gap S.1 k w = .inl E → E = "java/lang/IndexOutOfBoundsException" ∨ E = "java/lang/IllegalArgumentException" := fun E => th_gap S.1 k w E
  refine metW (cc := cL_gap) (maxL := 5) (ret := (some .int)) (hh := [(0, 10, 13, 28), (0, 10, 17, 13)]) (by decide) rfl ?_
  intro p e s m below meth cd hx hb hr hml hown hts hlocks htab hP hO hTh hN
  have hS : va_S (wfr b o) s.heap s.heap [] := va_S.rf
  have hl := lv_entry ([.ref b, .int k, .int w, .ref o]) (n := 5) (Nat.le_of_ble_eq_true rfl)
  rw [lg_entry_eq]
  generalize (lg_sl ([.ref b, .int k, .int w, .ref o]) ++ List.replicate (5 - (lg_sl ([.ref b, .int k, .int w, .ref o])).length) Slot.unset).toArray = ls at hl ⊢
  have hl : lv_has ls 5 [(0, .ref b), (1, .int k), (2, .int w), (3, .ref o)] := hl
  refine lv_aload_n hx hb dL_gap_0 rfl (lv_at hl 3 rfl) ?_
  refine lv_iconst (v := 0) hx hb dL_gap_1 (by decide) ?_
  refine lv_aload_n hx hb dL_gap_2 rfl (lv_at hl 0 rfl) ?_
  refine lv_iload_n hx hb dL_gap_3 rfl (lv_at hl 1 rfl) ?_
  refine lv_iload_n hx hb dL_gap_4 rfl (lv_at hl 2 rfl) ?_
  refine cl_xi (xW (A := blk b (b + 170)) (As := [.int k, .int w]) (rest := [.int 0, .ref o]) ⟨hx, hb, hml, hown, hts⟩ (c_X6_gap l G b S.1 k w hst) (cwV 2 hts gL_gap_X6_gap rfl rfl rfl (by decide +kernel) ⟨Nat.le_of_ble_eq_true rfl, Nat.le_of_ble_eq_true rfl⟩) (cb_recv hO hP.1) hP.1 hO (fun U hU hW => (hTh.warm hW hU).sub fun q h => .inl h) rfl hl.1 (Nat.le_of_ble_eq_true rfl) dL_gap_5 ⟨Nat.le_of_ble_eq_true rfl, Nat.le_of_ble_eq_true rfl⟩) (fun r X9 H1 L hE hPx hs hk hL => ?_) (fun E ce q9 H1 L hE hs hk hL hce hcv hcl => ?_)
  · have hS := S_app hS hs hk hL (fun q h => .inl h)
    have hPo : va_P G.1 vwCl (lgW G o S.2) H1 := P_o (n := 1) hP.2 Adr.one rfl hk (fun q h1 h2 z => by have h3 := z.1; have h4 := z.2; omega)
    refine lv_i2l (v := r.toInt64) hx hb dL_gap_8 rfl ?_
    refine va_last (ws := lgW G o S.2 ++ (stW G (b + 12) (xR X9) ++ cbR G b X9)) hx hb hO.1 (P_app.mpr ⟨hPo, cb_fl hPx⟩) (wx_D hd) hS 0 4 rfl rfl (by unfold vp_in; decide) dL_gap_9 (fun H2 locs2 hP2 hD2 hS2 => ?_)
    have hP3 := wx_st hP2
    refine lv_goto (tgt := 21) hx hb dL_gap_10 (by decide) ?_
    refine lv_iconst (v := 0) hx hb dL_gap_21 (by decide) ?_
    have hw0 : wr "java/lang/IndexOutOfBoundsException" (h_X6_gap S.1 k w) S = (0, (X9, vp_updL S.2 (0 : Int32).toNatClampNeg r.toInt64)) := by rw [hE]; rfl
    exact vx_ret (W.iret hx hb hr (fun t ht hW => ⟨by rw [hw0], by rw [hw0, ht]; exact hP3, hS2.F ht⟩) hS2.2.2 dL_gap_22)
  · have hS := S_app (fr := blk b (b + 170)) hS hs (fun q h _ => hk q h) (fun z hz => (hL z hz)) (fun q h => .inl h)
    have hPb : WX G b o S H1 := ⟨cb_out (fr := noA) hP.1 (fun q h _ => hk q h) (fun _ _ _ z => z), P_o (n := 1) (fr := noA) hP.2 Adr.one rfl (fun q h _ => hk q h) (fun _ _ _ z => z)⟩
    rcases hth E hE with rfl | rfl
    · refine vx_catch (name := "java/lang/IndexOutOfBoundsException") (E := "java/lang/IndexOutOfBoundsException") hown [] ⟨0, 10, 13, 28⟩ [⟨0, 10, 17, 13⟩] htab (fun z hz => absurd hz List.not_mem_nil) (by decide) (by decide) (hts (.classLink RL 28 "java/lang/IndexOutOfBoundsException") (by decide +kernel)) (hTh.w _ (List.mem_of_getElem? (i := 5) rfl)) hce hcv hcl ?_
      refine lv_astore (lv' := [(4, .ref q9), (0, .ref b), (1, .int k), (2, .int w), (3, .ref o)]) hx hb dL_gap_13 hl (by decide) rfl (fun ls hl => ?_)
      refine lv_iconst (v := 1) hx hb dL_gap_15 (by decide) ?_
      have hw0 : wr "java/lang/IndexOutOfBoundsException" (h_X6_gap S.1 k w) S = (1, S) := by rw [hE, wr]; rw [if_pos rfl]
      exact vx_ret (W.iret hx hb hr (fun t ht hW => ⟨by rw [hw0], by rw [hw0, ht]; exact hPb, hS.F ht⟩) hS.2.2 dL_gap_16)
    · refine vx_catch (name := "java/lang/IllegalArgumentException") (E := "java/lang/IllegalArgumentException") hown [⟨0, 10, 13, 28⟩] ⟨0, 10, 17, 13⟩ [] htab (fun z hz => by rw [List.mem_singleton.mp hz]; exact .inr ⟨by decide, "java/lang/IndexOutOfBoundsException", hts (.classLink RL 28 "java/lang/IndexOutOfBoundsException") (by decide +kernel), (hN _ (List.mem_of_getElem? (i := 1) rfl))⟩) (by decide) (by decide) (hts (.classLink RL 13 "java/lang/IllegalArgumentException") (by decide +kernel)) (hTh.w _ (List.mem_of_getElem? (i := 3) rfl)) hce hcv hcl ?_
      refine lv_astore (lv' := [(4, .ref q9), (0, .ref b), (1, .int k), (2, .int w), (3, .ref o)]) hx hb dL_gap_17 hl (by decide) rfl (fun ls hl => ?_)
      refine lv_iconst (v := 2) hx hb dL_gap_19 (by decide) ?_
      have hw0 : wr "java/lang/IndexOutOfBoundsException" (h_X6_gap S.1 k w) S = (2, S) := by rw [hE, wr]; rw [if_neg (by decide)]
      exact vx_ret (W.iret hx hb hr (fun t ht hW => ⟨by rw [hw0], by rw [hw0, ht]; exact hPb, hS.F ht⟩) hS.2.2 dL_gap_20)

set_option maxHeartbeats 4000000 in
set_option maxRecDepth 100000 in
theorem c_L_setting (l : Launch) (G : GG) (b o : Nat) (S : Wx) (w : Int32) (hst : l.stackTraces = false) (hd : o < b ∨ b + 170 ≤ o) : vx_Met l yL_setting wsL_setting ({ frames := 9, cells := 1, slots := 6, locals := 142 }) (PcN G (wfr b o) [.ref b, .int w, .ref o] (WX G b o S)) (QM (some (.int (wr "java/lang/IllegalArgumentException" (h_X6_setting S.1 w) S).1)) (WX G b o (wr "java/lang/IllegalArgumentException" (h_X6_setting S.1 w) S).2) (wfr b o)) XNo 1 6 (wfr b o) := by
  have hth : ∀ E, h_X6_setting S.1 w = .inl E → E = "java/lang/IllegalArgumentException" := fun E => th_setting S.1 w E
  refine metW (cc := cL_setting) (maxL := 4) (ret := (some .int)) (hh := [(0, 9, 12, 13)]) (by decide) rfl ?_
  intro p e s m below meth cd hx hb hr hml hown hts hlocks htab hP hO hTh hN
  have hS : va_S (wfr b o) s.heap s.heap [] := va_S.rf
  have hl := lv_entry ([.ref b, .int w, .ref o]) (n := 4) (Nat.le_of_ble_eq_true rfl)
  rw [lg_entry_eq]
  generalize (lg_sl ([.ref b, .int w, .ref o]) ++ List.replicate (4 - (lg_sl ([.ref b, .int w, .ref o])).length) Slot.unset).toArray = ls at hl ⊢
  have hl : lv_has ls 4 [(0, .ref b), (1, .int w), (2, .ref o)] := hl
  refine lv_aload_n hx hb dL_setting_0 rfl (lv_at hl 2 rfl) ?_
  refine lv_iconst (v := 0) hx hb dL_setting_1 (by decide) ?_
  refine lv_aload_n hx hb dL_setting_2 rfl (lv_at hl 0 rfl) ?_
  refine lv_iload_n hx hb dL_setting_3 rfl (lv_at hl 1 rfl) ?_
  refine cl_xi (xW (A := blk b (b + 170)) (As := [.int w]) (rest := [.int 0, .ref o]) ⟨hx, hb, hml, hown, hts⟩ (c_X6_setting l G b S.1 w hst) (cwV 1 hts gL_setting_X6_setting rfl rfl rfl (by decide +kernel) ⟨Nat.le_of_ble_eq_true rfl, Nat.le_of_ble_eq_true rfl⟩) (cb_recv hO hP.1) hP.1 hO (fun U hU hW => (hTh.warm hW hU).sub fun q h => .inl h) rfl hl.1 (Nat.le_of_ble_eq_true rfl) dL_setting_4 ⟨Nat.le_of_ble_eq_true rfl, Nat.le_of_ble_eq_true rfl⟩) (fun r X9 H1 L hE hPx hs hk hL => ?_) (fun E ce q9 H1 L hE hs hk hL hce hcv hcl => ?_)
  · have hS := S_app hS hs hk hL (fun q h => .inl h)
    have hPo : va_P G.1 vwCl (lgW G o S.2) H1 := P_o (n := 1) hP.2 Adr.one rfl hk (fun q h1 h2 z => by have h3 := z.1; have h4 := z.2; omega)
    refine lv_i2l (v := r.toInt64) hx hb dL_setting_7 rfl ?_
    refine va_last (ws := lgW G o S.2 ++ (stW G (b + 12) (xR X9) ++ cbR G b X9)) hx hb hO.1 (P_app.mpr ⟨hPo, cb_fl hPx⟩) (wx_D hd) hS 0 4 rfl rfl (by unfold vp_in; decide) dL_setting_8 (fun H2 locs2 hP2 hD2 hS2 => ?_)
    have hP3 := wx_st hP2
    refine lv_goto (tgt := 15) hx hb dL_setting_9 (by decide) ?_
    refine lv_iconst (v := 0) hx hb dL_setting_15 (by decide) ?_
    have hw0 : wr "java/lang/IllegalArgumentException" (h_X6_setting S.1 w) S = (0, (X9, vp_updL S.2 (0 : Int32).toNatClampNeg r.toInt64)) := by rw [hE]; rfl
    exact vx_ret (W.iret hx hb hr (fun t ht hW => ⟨by rw [hw0], by rw [hw0, ht]; exact hP3, hS2.F ht⟩) hS2.2.2 dL_setting_16)
  · have hS := S_app (fr := blk b (b + 170)) hS hs (fun q h _ => hk q h) (fun z hz => (hL z hz)) (fun q h => .inl h)
    have hPb : WX G b o S H1 := ⟨cb_out (fr := noA) hP.1 (fun q h _ => hk q h) (fun _ _ _ z => z), P_o (n := 1) (fr := noA) hP.2 Adr.one rfl (fun q h _ => hk q h) (fun _ _ _ z => z)⟩
    obtain rfl := hth E hE
    refine vx_catch (name := "java/lang/IllegalArgumentException") (E := "java/lang/IllegalArgumentException") hown [] ⟨0, 9, 12, 13⟩ [] htab (fun z hz => absurd hz List.not_mem_nil) (by decide) (by decide) (hts (.classLink RL 13 "java/lang/IllegalArgumentException") (by decide +kernel)) (hTh.w _ (List.mem_of_getElem? (i := 3) rfl)) hce hcv hcl ?_
    refine lv_astore_n (lv' := [(3, .ref q9), (0, .ref b), (1, .int w), (2, .ref o)]) hx hb dL_setting_12 rfl hl (by decide) rfl (fun ls hl => ?_)
    refine lv_iconst (v := 1) hx hb dL_setting_13 (by decide) ?_
    have hw0 : wr "java/lang/IllegalArgumentException" (h_X6_setting S.1 w) S = (1, S) := by rw [hE, wr]; rw [if_pos rfl]
    exact vx_ret (W.iret hx hb hr (fun t ht hW => ⟨by rw [hw0], by rw [hw0, ht]; exact hPb, hS.F ht⟩) hS.2.2 dL_setting_14)

set_option maxHeartbeats 4000000 in
set_option maxRecDepth 100000 in
theorem c_L_hydrant (l : Launch) (G : GG) (b o : Nat) (S : Wx) (x : Int32) (on : Int32) (hst : l.stackTraces = false) (hd : o < b ∨ b + 170 ≤ o) (hO14 : qO (xH S.1) < 14) (hK14 : qK (xH S.1) ≤ 14) : vx_Met l yL_hydrant wsL_hydrant ({ frames := 10, cells := 1, slots := 6, locals := 162 }) (PcN G (wfr b o) [.ref b, .int x, .int on, .ref o] (WX G b o S)) (QM (some (.int (wr "java/lang/IndexOutOfBoundsException" (h_X6_hydrant S.1 x on) S).1)) (WX G b o (wr "java/lang/IndexOutOfBoundsException" (h_X6_hydrant S.1 x on) S).2) (wfr b o)) XNo 1 6 (wfr b o) := by
  have hth : ∀ E, h_X6_hydrant S.1 x on = .inl E → E = "java/lang/IndexOutOfBoundsException" ∨ E = "java/lang/IllegalStateException" := fun E => th_hydrant S.1 x on E
  refine metW (cc := cL_hydrant) (maxL := 5) (ret := (some .int)) (hh := [(0, 10, 13, 28), (0, 10, 17, 15)]) (by decide) rfl ?_
  intro p e s m below meth cd hx hb hr hml hown hts hlocks htab hP hO hTh hN
  have hS : va_S (wfr b o) s.heap s.heap [] := va_S.rf
  have hl := lv_entry ([.ref b, .int x, .int on, .ref o]) (n := 5) (Nat.le_of_ble_eq_true rfl)
  rw [lg_entry_eq]
  generalize (lg_sl ([.ref b, .int x, .int on, .ref o]) ++ List.replicate (5 - (lg_sl ([.ref b, .int x, .int on, .ref o])).length) Slot.unset).toArray = ls at hl ⊢
  have hl : lv_has ls 5 [(0, .ref b), (1, .int x), (2, .int on), (3, .ref o)] := hl
  refine lv_aload_n hx hb dL_hydrant_0 rfl (lv_at hl 3 rfl) ?_
  refine lv_iconst (v := 0) hx hb dL_hydrant_1 (by decide) ?_
  refine lv_aload_n hx hb dL_hydrant_2 rfl (lv_at hl 0 rfl) ?_
  refine lv_iload_n hx hb dL_hydrant_3 rfl (lv_at hl 1 rfl) ?_
  refine lv_iload_n hx hb dL_hydrant_4 rfl (lv_at hl 2 rfl) ?_
  refine cl_xi (xW (A := blk b (b + 170)) (As := [.int x, .int on]) (rest := [.int 0, .ref o]) ⟨hx, hb, hml, hown, hts⟩ (c_X6_hydrant l G b S.1 x on hst hO14 hK14) (cwV 2 hts gL_hydrant_X6_hydrant rfl rfl rfl (by decide +kernel) ⟨Nat.le_of_ble_eq_true rfl, Nat.le_of_ble_eq_true rfl⟩) (cb_recv hO hP.1) hP.1 hO (fun U hU hW => (hTh.warm hW hU).sub fun q h => .inl h) rfl hl.1 (Nat.le_of_ble_eq_true rfl) dL_hydrant_5 ⟨Nat.le_of_ble_eq_true rfl, Nat.le_of_ble_eq_true rfl⟩) (fun r X9 H1 L hE hPx hs hk hL => ?_) (fun E ce q9 H1 L hE hs hk hL hce hcv hcl => ?_)
  · have hS := S_app hS hs hk hL (fun q h => .inl h)
    have hPo : va_P G.1 vwCl (lgW G o S.2) H1 := P_o (n := 1) hP.2 Adr.one rfl hk (fun q h1 h2 z => by have h3 := z.1; have h4 := z.2; omega)
    refine lv_i2l (v := r.toInt64) hx hb dL_hydrant_8 rfl ?_
    refine va_last (ws := lgW G o S.2 ++ (stW G (b + 12) (xR X9) ++ cbR G b X9)) hx hb hO.1 (P_app.mpr ⟨hPo, cb_fl hPx⟩) (wx_D hd) hS 0 4 rfl rfl (by unfold vp_in; decide) dL_hydrant_9 (fun H2 locs2 hP2 hD2 hS2 => ?_)
    have hP3 := wx_st hP2
    refine lv_goto (tgt := 21) hx hb dL_hydrant_10 (by decide) ?_
    refine lv_iconst (v := 0) hx hb dL_hydrant_21 (by decide) ?_
    have hw0 : wr "java/lang/IndexOutOfBoundsException" (h_X6_hydrant S.1 x on) S = (0, (X9, vp_updL S.2 (0 : Int32).toNatClampNeg r.toInt64)) := by rw [hE]; rfl
    exact vx_ret (W.iret hx hb hr (fun t ht hW => ⟨by rw [hw0], by rw [hw0, ht]; exact hP3, hS2.F ht⟩) hS2.2.2 dL_hydrant_22)
  · have hS := S_app (fr := blk b (b + 170)) hS hs (fun q h _ => hk q h) (fun z hz => (hL z hz)) (fun q h => .inl h)
    have hPb : WX G b o S H1 := ⟨cb_out (fr := noA) hP.1 (fun q h _ => hk q h) (fun _ _ _ z => z), P_o (n := 1) (fr := noA) hP.2 Adr.one rfl (fun q h _ => hk q h) (fun _ _ _ z => z)⟩
    rcases hth E hE with rfl | rfl
    · refine vx_catch (name := "java/lang/IndexOutOfBoundsException") (E := "java/lang/IndexOutOfBoundsException") hown [] ⟨0, 10, 13, 28⟩ [⟨0, 10, 17, 15⟩] htab (fun z hz => absurd hz List.not_mem_nil) (by decide) (by decide) (hts (.classLink RL 28 "java/lang/IndexOutOfBoundsException") (by decide +kernel)) (hTh.w _ (List.mem_of_getElem? (i := 5) rfl)) hce hcv hcl ?_
      refine lv_astore (lv' := [(4, .ref q9), (0, .ref b), (1, .int x), (2, .int on), (3, .ref o)]) hx hb dL_hydrant_13 hl (by decide) rfl (fun ls hl => ?_)
      refine lv_iconst (v := 1) hx hb dL_hydrant_15 (by decide) ?_
      have hw0 : wr "java/lang/IndexOutOfBoundsException" (h_X6_hydrant S.1 x on) S = (1, S) := by rw [hE, wr]; rw [if_pos rfl]
      exact vx_ret (W.iret hx hb hr (fun t ht hW => ⟨by rw [hw0], by rw [hw0, ht]; exact hPb, hS.F ht⟩) hS.2.2 dL_hydrant_16)
    · refine vx_catch (name := "java/lang/IllegalStateException") (E := "java/lang/IllegalStateException") hown [⟨0, 10, 13, 28⟩] ⟨0, 10, 17, 15⟩ [] htab (fun z hz => by rw [List.mem_singleton.mp hz]; exact .inr ⟨by decide, "java/lang/IndexOutOfBoundsException", hts (.classLink RL 28 "java/lang/IndexOutOfBoundsException") (by decide +kernel), (hN _ (List.mem_of_getElem? (i := 2) rfl))⟩) (by decide) (by decide) (hts (.classLink RL 15 "java/lang/IllegalStateException") (by decide +kernel)) (hTh.w _ (List.mem_of_getElem? (i := 4) rfl)) hce hcv hcl ?_
      refine lv_astore (lv' := [(4, .ref q9), (0, .ref b), (1, .int x), (2, .int on), (3, .ref o)]) hx hb dL_hydrant_17 hl (by decide) rfl (fun ls hl => ?_)
      refine lv_iconst (v := 2) hx hb dL_hydrant_19 (by decide) ?_
      have hw0 : wr "java/lang/IndexOutOfBoundsException" (h_X6_hydrant S.1 x on) S = (2, S) := by rw [hE, wr]; rw [if_neg (by decide)]
      exact vx_ret (W.iret hx hb hr (fun t ht hW => ⟨by rw [hw0], by rw [hw0, ht]; exact hPb, hS.F ht⟩) hS.2.2 dL_hydrant_20)

set_option maxHeartbeats 4000000 in
set_option maxRecDepth 100000 in
theorem c_L_come (l : Launch) (G : GG) (b o : Nat) (S : Wx) (len : Int32) (stay : Int32) (hst : l.stackTraces = false) (hd : o < b ∨ b + 170 ≤ o) (hO14 : qO (xH S.1) < 14) (hK14 : qK (xH S.1) ≤ 14) : vx_Met l yL_come wsL_come ({ frames := 10, cells := 1, slots := 6, locals := 162 }) (PcN G (wfr b o) [.ref b, .int len, .int stay, .ref o] (WX G b o S)) (QM (some (.int (wr "java/lang/IllegalArgumentException" (h_X6_come S.1 len stay) S).1)) (WX G b o (wr "java/lang/IllegalArgumentException" (h_X6_come S.1 len stay) S).2) (wfr b o)) XNo 1 6 (wfr b o) := by
  have hth : ∀ E, h_X6_come S.1 len stay = .inl E → E = "java/lang/IllegalArgumentException" ∨ E = "java/lang/IllegalStateException" := fun E => th_come S.1 len stay E
  refine metW (cc := cL_come) (maxL := 5) (ret := (some .int)) (hh := [(0, 10, 13, 13), (0, 10, 17, 15)]) (by decide) rfl ?_
  intro p e s m below meth cd hx hb hr hml hown hts hlocks htab hP hO hTh hN
  have hS : va_S (wfr b o) s.heap s.heap [] := va_S.rf
  have hl := lv_entry ([.ref b, .int len, .int stay, .ref o]) (n := 5) (Nat.le_of_ble_eq_true rfl)
  rw [lg_entry_eq]
  generalize (lg_sl ([.ref b, .int len, .int stay, .ref o]) ++ List.replicate (5 - (lg_sl ([.ref b, .int len, .int stay, .ref o])).length) Slot.unset).toArray = ls at hl ⊢
  have hl : lv_has ls 5 [(0, .ref b), (1, .int len), (2, .int stay), (3, .ref o)] := hl
  refine lv_aload_n hx hb dL_come_0 rfl (lv_at hl 3 rfl) ?_
  refine lv_iconst (v := 0) hx hb dL_come_1 (by decide) ?_
  refine lv_aload_n hx hb dL_come_2 rfl (lv_at hl 0 rfl) ?_
  refine lv_iload_n hx hb dL_come_3 rfl (lv_at hl 1 rfl) ?_
  refine lv_iload_n hx hb dL_come_4 rfl (lv_at hl 2 rfl) ?_
  refine cl_xi (xW (A := blk b (b + 170)) (As := [.int len, .int stay]) (rest := [.int 0, .ref o]) ⟨hx, hb, hml, hown, hts⟩ (c_X6_come l G b S.1 len stay hst hO14 hK14) (cwV 2 hts gL_come_X6_come rfl rfl rfl (by decide +kernel) ⟨Nat.le_of_ble_eq_true rfl, Nat.le_of_ble_eq_true rfl⟩) (cb_recv hO hP.1) hP.1 hO (fun U hU hW => (hTh.warm hW hU).sub fun q h => .inl h) rfl hl.1 (Nat.le_of_ble_eq_true rfl) dL_come_5 ⟨Nat.le_of_ble_eq_true rfl, Nat.le_of_ble_eq_true rfl⟩) (fun r X9 H1 L hE hPx hs hk hL => ?_) (fun E ce q9 H1 L hE hs hk hL hce hcv hcl => ?_)
  · have hS := S_app hS hs hk hL (fun q h => .inl h)
    have hPo : va_P G.1 vwCl (lgW G o S.2) H1 := P_o (n := 1) hP.2 Adr.one rfl hk (fun q h1 h2 z => by have h3 := z.1; have h4 := z.2; omega)
    refine lv_i2l (v := r.toInt64) hx hb dL_come_8 rfl ?_
    refine va_last (ws := lgW G o S.2 ++ (stW G (b + 12) (xR X9) ++ cbR G b X9)) hx hb hO.1 (P_app.mpr ⟨hPo, cb_fl hPx⟩) (wx_D hd) hS 0 4 rfl rfl (by unfold vp_in; decide) dL_come_9 (fun H2 locs2 hP2 hD2 hS2 => ?_)
    have hP3 := wx_st hP2
    refine lv_goto (tgt := 21) hx hb dL_come_10 (by decide) ?_
    refine lv_iconst (v := 0) hx hb dL_come_21 (by decide) ?_
    have hw0 : wr "java/lang/IllegalArgumentException" (h_X6_come S.1 len stay) S = (0, (X9, vp_updL S.2 (0 : Int32).toNatClampNeg r.toInt64)) := by rw [hE]; rfl
    exact vx_ret (W.iret hx hb hr (fun t ht hW => ⟨by rw [hw0], by rw [hw0, ht]; exact hP3, hS2.F ht⟩) hS2.2.2 dL_come_22)
  · have hS := S_app (fr := blk b (b + 170)) hS hs (fun q h _ => hk q h) (fun z hz => (hL z hz)) (fun q h => .inl h)
    have hPb : WX G b o S H1 := ⟨cb_out (fr := noA) hP.1 (fun q h _ => hk q h) (fun _ _ _ z => z), P_o (n := 1) (fr := noA) hP.2 Adr.one rfl (fun q h _ => hk q h) (fun _ _ _ z => z)⟩
    rcases hth E hE with rfl | rfl
    · refine vx_catch (name := "java/lang/IllegalArgumentException") (E := "java/lang/IllegalArgumentException") hown [] ⟨0, 10, 13, 13⟩ [⟨0, 10, 17, 15⟩] htab (fun z hz => absurd hz List.not_mem_nil) (by decide) (by decide) (hts (.classLink RL 13 "java/lang/IllegalArgumentException") (by decide +kernel)) (hTh.w _ (List.mem_of_getElem? (i := 3) rfl)) hce hcv hcl ?_
      refine lv_astore (lv' := [(4, .ref q9), (0, .ref b), (1, .int len), (2, .int stay), (3, .ref o)]) hx hb dL_come_13 hl (by decide) rfl (fun ls hl => ?_)
      refine lv_iconst (v := 1) hx hb dL_come_15 (by decide) ?_
      have hw0 : wr "java/lang/IllegalArgumentException" (h_X6_come S.1 len stay) S = (1, S) := by rw [hE, wr]; rw [if_pos rfl]
      exact vx_ret (W.iret hx hb hr (fun t ht hW => ⟨by rw [hw0], by rw [hw0, ht]; exact hPb, hS.F ht⟩) hS.2.2 dL_come_16)
    · refine vx_catch (name := "java/lang/IllegalStateException") (E := "java/lang/IllegalStateException") hown [⟨0, 10, 13, 13⟩] ⟨0, 10, 17, 15⟩ [] htab (fun z hz => by rw [List.mem_singleton.mp hz]; exact .inr ⟨by decide, "java/lang/IllegalArgumentException", hts (.classLink RL 13 "java/lang/IllegalArgumentException") (by decide +kernel), (hN _ (List.mem_of_getElem? (i := 0) rfl))⟩) (by decide) (by decide) (hts (.classLink RL 15 "java/lang/IllegalStateException") (by decide +kernel)) (hTh.w _ (List.mem_of_getElem? (i := 4) rfl)) hce hcv hcl ?_
      refine lv_astore (lv' := [(4, .ref q9), (0, .ref b), (1, .int len), (2, .int stay), (3, .ref o)]) hx hb dL_come_17 hl (by decide) rfl (fun ls hl => ?_)
      refine lv_iconst (v := 2) hx hb dL_come_19 (by decide) ?_
      have hw0 : wr "java/lang/IllegalArgumentException" (h_X6_come S.1 len stay) S = (2, S) := by rw [hE, wr]; rw [if_neg (by decide)]
      exact vx_ret (W.iret hx hb hr (fun t ht hW => ⟨by rw [hw0], by rw [hw0, ht]; exact hPb, hS.F ht⟩) hS.2.2 dL_come_20)

set_option maxHeartbeats 4000000 in
set_option maxRecDepth 100000 in
theorem c_L_leave (l : Launch) (G : GG) (b o : Nat) (S : Wx) (c : Int32) (hst : l.stackTraces = false) (hd : o < b ∨ b + 170 ≤ o) (hO14 : qO (xH S.1) < 14) (hK14 : qK (xH S.1) ≤ 14) : vx_Met l yL_leave wsL_leave ({ frames := 10, cells := 1, slots := 6, locals := 162 }) (PcN G (wfr b o) [.ref b, .int c, .ref o] (WX G b o S)) (QM (some (.int (wr "java/lang/IndexOutOfBoundsException" (h_X6_leave S.1 c) S).1)) (WX G b o (wr "java/lang/IndexOutOfBoundsException" (h_X6_leave S.1 c) S).2) (wfr b o)) XNo 1 6 (wfr b o) := by
  have hth : ∀ E, h_X6_leave S.1 c = .inl E → E = "java/lang/IndexOutOfBoundsException" ∨ E = "java/lang/IllegalStateException" := fun E => th_leave S.1 c E
  refine metW (cc := cL_leave) (maxL := 4) (ret := (some .int)) (hh := [(0, 9, 12, 28), (0, 9, 15, 15)]) (by decide) rfl ?_
  intro p e s m below meth cd hx hb hr hml hown hts hlocks htab hP hO hTh hN
  have hS : va_S (wfr b o) s.heap s.heap [] := va_S.rf
  have hl := lv_entry ([.ref b, .int c, .ref o]) (n := 4) (Nat.le_of_ble_eq_true rfl)
  rw [lg_entry_eq]
  generalize (lg_sl ([.ref b, .int c, .ref o]) ++ List.replicate (4 - (lg_sl ([.ref b, .int c, .ref o])).length) Slot.unset).toArray = ls at hl ⊢
  have hl : lv_has ls 4 [(0, .ref b), (1, .int c), (2, .ref o)] := hl
  refine lv_aload_n hx hb dL_leave_0 rfl (lv_at hl 2 rfl) ?_
  refine lv_iconst (v := 0) hx hb dL_leave_1 (by decide) ?_
  refine lv_aload_n hx hb dL_leave_2 rfl (lv_at hl 0 rfl) ?_
  refine lv_iload_n hx hb dL_leave_3 rfl (lv_at hl 1 rfl) ?_
  refine cl_xi (xW (A := blk b (b + 170)) (As := [.int c]) (rest := [.int 0, .ref o]) ⟨hx, hb, hml, hown, hts⟩ (c_X6_leave l G b S.1 c hst hO14 hK14) (cwV 1 hts gL_leave_X6_leave rfl rfl rfl (by decide +kernel) ⟨Nat.le_of_ble_eq_true rfl, Nat.le_of_ble_eq_true rfl⟩) (cb_recv hO hP.1) hP.1 hO (fun U hU hW => (hTh.warm hW hU).sub fun q h => .inl h) rfl hl.1 (Nat.le_of_ble_eq_true rfl) dL_leave_4 ⟨Nat.le_of_ble_eq_true rfl, Nat.le_of_ble_eq_true rfl⟩) (fun r X9 H1 L hE hPx hs hk hL => ?_) (fun E ce q9 H1 L hE hs hk hL hce hcv hcl => ?_)
  · have hS := S_app hS hs hk hL (fun q h => .inl h)
    have hPo : va_P G.1 vwCl (lgW G o S.2) H1 := P_o (n := 1) hP.2 Adr.one rfl hk (fun q h1 h2 z => by have h3 := z.1; have h4 := z.2; omega)
    refine lv_i2l (v := r.toInt64) hx hb dL_leave_7 rfl ?_
    refine va_last (ws := lgW G o S.2 ++ (stW G (b + 12) (xR X9) ++ cbR G b X9)) hx hb hO.1 (P_app.mpr ⟨hPo, cb_fl hPx⟩) (wx_D hd) hS 0 4 rfl rfl (by unfold vp_in; decide) dL_leave_8 (fun H2 locs2 hP2 hD2 hS2 => ?_)
    have hP3 := wx_st hP2
    refine lv_goto (tgt := 18) hx hb dL_leave_9 (by decide) ?_
    refine lv_iconst (v := 0) hx hb dL_leave_18 (by decide) ?_
    have hw0 : wr "java/lang/IndexOutOfBoundsException" (h_X6_leave S.1 c) S = (0, (X9, vp_updL S.2 (0 : Int32).toNatClampNeg r.toInt64)) := by rw [hE]; rfl
    exact vx_ret (W.iret hx hb hr (fun t ht hW => ⟨by rw [hw0], by rw [hw0, ht]; exact hP3, hS2.F ht⟩) hS2.2.2 dL_leave_19)
  · have hS := S_app (fr := blk b (b + 170)) hS hs (fun q h _ => hk q h) (fun z hz => (hL z hz)) (fun q h => .inl h)
    have hPb : WX G b o S H1 := ⟨cb_out (fr := noA) hP.1 (fun q h _ => hk q h) (fun _ _ _ z => z), P_o (n := 1) (fr := noA) hP.2 Adr.one rfl (fun q h _ => hk q h) (fun _ _ _ z => z)⟩
    rcases hth E hE with rfl | rfl
    · refine vx_catch (name := "java/lang/IndexOutOfBoundsException") (E := "java/lang/IndexOutOfBoundsException") hown [] ⟨0, 9, 12, 28⟩ [⟨0, 9, 15, 15⟩] htab (fun z hz => absurd hz List.not_mem_nil) (by decide) (by decide) (hts (.classLink RL 28 "java/lang/IndexOutOfBoundsException") (by decide +kernel)) (hTh.w _ (List.mem_of_getElem? (i := 5) rfl)) hce hcv hcl ?_
      refine lv_astore_n (lv' := [(3, .ref q9), (0, .ref b), (1, .int c), (2, .ref o)]) hx hb dL_leave_12 rfl hl (by decide) rfl (fun ls hl => ?_)
      refine lv_iconst (v := 1) hx hb dL_leave_13 (by decide) ?_
      have hw0 : wr "java/lang/IndexOutOfBoundsException" (h_X6_leave S.1 c) S = (1, S) := by rw [hE, wr]; rw [if_pos rfl]
      exact vx_ret (W.iret hx hb hr (fun t ht hW => ⟨by rw [hw0], by rw [hw0, ht]; exact hPb, hS.F ht⟩) hS.2.2 dL_leave_14)
    · refine vx_catch (name := "java/lang/IllegalStateException") (E := "java/lang/IllegalStateException") hown [⟨0, 9, 12, 28⟩] ⟨0, 9, 15, 15⟩ [] htab (fun z hz => by rw [List.mem_singleton.mp hz]; exact .inr ⟨by decide, "java/lang/IndexOutOfBoundsException", hts (.classLink RL 28 "java/lang/IndexOutOfBoundsException") (by decide +kernel), (hN _ (List.mem_of_getElem? (i := 2) rfl))⟩) (by decide) (by decide) (hts (.classLink RL 15 "java/lang/IllegalStateException") (by decide +kernel)) (hTh.w _ (List.mem_of_getElem? (i := 4) rfl)) hce hcv hcl ?_
      refine lv_astore_n (lv' := [(3, .ref q9), (0, .ref b), (1, .int c), (2, .ref o)]) hx hb dL_leave_15 rfl hl (by decide) rfl (fun ls hl => ?_)
      refine lv_iconst (v := 2) hx hb dL_leave_16 (by decide) ?_
      have hw0 : wr "java/lang/IndexOutOfBoundsException" (h_X6_leave S.1 c) S = (2, S) := by rw [hE, wr]; rw [if_neg (by decide)]
      exact vx_ret (W.iret hx hb hr (fun t ht hW => ⟨by rw [hw0], by rw [hw0, ht]; exact hPb, hS.F ht⟩) hS.2.2 dL_leave_17)

set_option maxHeartbeats 4000000 in
set_option maxRecDepth 100000 in
theorem c_L_tow (l : Launch) (G : GG) (b o : Nat) (S : Wx) (c : Int32) (hst : l.stackTraces = false) (hd : o < b ∨ b + 170 ≤ o) (hO14 : qO (xH S.1) < 14) (hK14 : qK (xH S.1) ≤ 14) : vx_Met l yL_tow wsL_tow ({ frames := 10, cells := 1, slots := 6, locals := 163 }) (PcN G (wfr b o) [.ref b, .int c, .ref o] (WX G b o S)) (QM (some (.int (wr "java/lang/IndexOutOfBoundsException" (h_X6_tow S.1 c) S).1)) (WX G b o (wr "java/lang/IndexOutOfBoundsException" (h_X6_tow S.1 c) S).2) (wfr b o)) XNo 1 6 (wfr b o) := by
  have hth : ∀ E, h_X6_tow S.1 c = .inl E → E = "java/lang/IndexOutOfBoundsException" ∨ E = "java/lang/IllegalStateException" := fun E => th_tow S.1 c E
  refine metW (cc := cL_tow) (maxL := 4) (ret := (some .int)) (hh := [(0, 9, 12, 28), (0, 9, 15, 15)]) (by decide) rfl ?_
  intro p e s m below meth cd hx hb hr hml hown hts hlocks htab hP hO hTh hN
  have hS : va_S (wfr b o) s.heap s.heap [] := va_S.rf
  have hl := lv_entry ([.ref b, .int c, .ref o]) (n := 4) (Nat.le_of_ble_eq_true rfl)
  rw [lg_entry_eq]
  generalize (lg_sl ([.ref b, .int c, .ref o]) ++ List.replicate (4 - (lg_sl ([.ref b, .int c, .ref o])).length) Slot.unset).toArray = ls at hl ⊢
  have hl : lv_has ls 4 [(0, .ref b), (1, .int c), (2, .ref o)] := hl
  refine lv_aload_n hx hb dL_tow_0 rfl (lv_at hl 2 rfl) ?_
  refine lv_iconst (v := 0) hx hb dL_tow_1 (by decide) ?_
  refine lv_aload_n hx hb dL_tow_2 rfl (lv_at hl 0 rfl) ?_
  refine lv_iload_n hx hb dL_tow_3 rfl (lv_at hl 1 rfl) ?_
  refine cl_xi (xW (A := blk b (b + 170)) (As := [.int c]) (rest := [.int 0, .ref o]) ⟨hx, hb, hml, hown, hts⟩ (c_X6_tow l G b S.1 c hst hO14 hK14) (cwV 1 hts gL_tow_X6_tow rfl rfl rfl (by decide +kernel) ⟨Nat.le_of_ble_eq_true rfl, Nat.le_of_ble_eq_true rfl⟩) (cb_recv hO hP.1) hP.1 hO (fun U hU hW => (hTh.warm hW hU).sub fun q h => .inl h) rfl hl.1 (Nat.le_of_ble_eq_true rfl) dL_tow_4 ⟨Nat.le_of_ble_eq_true rfl, Nat.le_of_ble_eq_true rfl⟩) (fun r X9 H1 L hE hPx hs hk hL => ?_) (fun E ce q9 H1 L hE hs hk hL hce hcv hcl => ?_)
  · have hS := S_app hS hs hk hL (fun q h => .inl h)
    have hPo : va_P G.1 vwCl (lgW G o S.2) H1 := P_o (n := 1) hP.2 Adr.one rfl hk (fun q h1 h2 z => by have h3 := z.1; have h4 := z.2; omega)
    refine lv_i2l (v := r.toInt64) hx hb dL_tow_7 rfl ?_
    refine va_last (ws := lgW G o S.2 ++ (stW G (b + 12) (xR X9) ++ cbR G b X9)) hx hb hO.1 (P_app.mpr ⟨hPo, cb_fl hPx⟩) (wx_D hd) hS 0 4 rfl rfl (by unfold vp_in; decide) dL_tow_8 (fun H2 locs2 hP2 hD2 hS2 => ?_)
    have hP3 := wx_st hP2
    refine lv_goto (tgt := 18) hx hb dL_tow_9 (by decide) ?_
    refine lv_iconst (v := 0) hx hb dL_tow_18 (by decide) ?_
    have hw0 : wr "java/lang/IndexOutOfBoundsException" (h_X6_tow S.1 c) S = (0, (X9, vp_updL S.2 (0 : Int32).toNatClampNeg r.toInt64)) := by rw [hE]; rfl
    exact vx_ret (W.iret hx hb hr (fun t ht hW => ⟨by rw [hw0], by rw [hw0, ht]; exact hP3, hS2.F ht⟩) hS2.2.2 dL_tow_19)
  · have hS := S_app (fr := blk b (b + 170)) hS hs (fun q h _ => hk q h) (fun z hz => (hL z hz)) (fun q h => .inl h)
    have hPb : WX G b o S H1 := ⟨cb_out (fr := noA) hP.1 (fun q h _ => hk q h) (fun _ _ _ z => z), P_o (n := 1) (fr := noA) hP.2 Adr.one rfl (fun q h _ => hk q h) (fun _ _ _ z => z)⟩
    rcases hth E hE with rfl | rfl
    · refine vx_catch (name := "java/lang/IndexOutOfBoundsException") (E := "java/lang/IndexOutOfBoundsException") hown [] ⟨0, 9, 12, 28⟩ [⟨0, 9, 15, 15⟩] htab (fun z hz => absurd hz List.not_mem_nil) (by decide) (by decide) (hts (.classLink RL 28 "java/lang/IndexOutOfBoundsException") (by decide +kernel)) (hTh.w _ (List.mem_of_getElem? (i := 5) rfl)) hce hcv hcl ?_
      refine lv_astore_n (lv' := [(3, .ref q9), (0, .ref b), (1, .int c), (2, .ref o)]) hx hb dL_tow_12 rfl hl (by decide) rfl (fun ls hl => ?_)
      refine lv_iconst (v := 1) hx hb dL_tow_13 (by decide) ?_
      have hw0 : wr "java/lang/IndexOutOfBoundsException" (h_X6_tow S.1 c) S = (1, S) := by rw [hE, wr]; rw [if_pos rfl]
      exact vx_ret (W.iret hx hb hr (fun t ht hW => ⟨by rw [hw0], by rw [hw0, ht]; exact hPb, hS.F ht⟩) hS.2.2 dL_tow_14)
    · refine vx_catch (name := "java/lang/IllegalStateException") (E := "java/lang/IllegalStateException") hown [⟨0, 9, 12, 28⟩] ⟨0, 9, 15, 15⟩ [] htab (fun z hz => by rw [List.mem_singleton.mp hz]; exact .inr ⟨by decide, "java/lang/IndexOutOfBoundsException", hts (.classLink RL 28 "java/lang/IndexOutOfBoundsException") (by decide +kernel), (hN _ (List.mem_of_getElem? (i := 2) rfl))⟩) (by decide) (by decide) (hts (.classLink RL 15 "java/lang/IllegalStateException") (by decide +kernel)) (hTh.w _ (List.mem_of_getElem? (i := 4) rfl)) hce hcv hcl ?_
      refine lv_astore_n (lv' := [(3, .ref q9), (0, .ref b), (1, .int c), (2, .ref o)]) hx hb dL_tow_15 rfl hl (by decide) rfl (fun ls hl => ?_)
      refine lv_iconst (v := 2) hx hb dL_tow_16 (by decide) ?_
      have hw0 : wr "java/lang/IndexOutOfBoundsException" (h_X6_tow S.1 c) S = (2, S) := by rw [hE, wr]; rw [if_neg (by decide)]
      exact vx_ret (W.iret hx hb hr (fun t ht hW => ⟨by rw [hw0], by rw [hw0, ht]; exact hPb, hS.F ht⟩) hS.2.2 dL_tow_17)

set_option maxHeartbeats 4000000 in
set_option maxRecDepth 100000 in
theorem c_L_move (l : Launch) (G : GG) (b o : Nat) (S : Wx) (c : Int32) (x : Int32) (hst : l.stackTraces = false) (hd : o < b ∨ b + 170 ≤ o) (hO14 : qO (xH S.1) < 14) (hK14 : qK (xH S.1) ≤ 14) : vx_Met l yL_move wsL_move ({ frames := 10, cells := 1, slots := 6, locals := 163 }) (PcN G (wfr b o) [.ref b, .int c, .int x, .ref o] (WX G b o S)) (QM (some (.int (wr "java/lang/IndexOutOfBoundsException" (h_X6_move S.1 c x) S).1)) (WX G b o (wr "java/lang/IndexOutOfBoundsException" (h_X6_move S.1 c x) S).2) (wfr b o)) XNo 1 6 (wfr b o) := by
  have hth : ∀ E, h_X6_move S.1 c x = .inl E → E = "java/lang/IndexOutOfBoundsException" ∨ E = "java/lang/IllegalStateException" := fun E => th_move S.1 c x E
  refine metW (cc := cL_move) (maxL := 5) (ret := (some .int)) (hh := [(0, 10, 13, 28), (0, 10, 17, 15)]) (by decide) rfl ?_
  intro p e s m below meth cd hx hb hr hml hown hts hlocks htab hP hO hTh hN
  have hS : va_S (wfr b o) s.heap s.heap [] := va_S.rf
  have hl := lv_entry ([.ref b, .int c, .int x, .ref o]) (n := 5) (Nat.le_of_ble_eq_true rfl)
  rw [lg_entry_eq]
  generalize (lg_sl ([.ref b, .int c, .int x, .ref o]) ++ List.replicate (5 - (lg_sl ([.ref b, .int c, .int x, .ref o])).length) Slot.unset).toArray = ls at hl ⊢
  have hl : lv_has ls 5 [(0, .ref b), (1, .int c), (2, .int x), (3, .ref o)] := hl
  refine lv_aload_n hx hb dL_move_0 rfl (lv_at hl 3 rfl) ?_
  refine lv_iconst (v := 0) hx hb dL_move_1 (by decide) ?_
  refine lv_aload_n hx hb dL_move_2 rfl (lv_at hl 0 rfl) ?_
  refine lv_iload_n hx hb dL_move_3 rfl (lv_at hl 1 rfl) ?_
  refine lv_iload_n hx hb dL_move_4 rfl (lv_at hl 2 rfl) ?_
  refine cl_xi (xW (A := blk b (b + 170)) (As := [.int c, .int x]) (rest := [.int 0, .ref o]) ⟨hx, hb, hml, hown, hts⟩ (c_X6_move l G b S.1 c x hst hO14 hK14) (cwV 2 hts gL_move_X6_move rfl rfl rfl (by decide +kernel) ⟨Nat.le_of_ble_eq_true rfl, Nat.le_of_ble_eq_true rfl⟩) (cb_recv hO hP.1) hP.1 hO (fun U hU hW => (hTh.warm hW hU).sub fun q h => .inl h) rfl hl.1 (Nat.le_of_ble_eq_true rfl) dL_move_5 ⟨Nat.le_of_ble_eq_true rfl, Nat.le_of_ble_eq_true rfl⟩) (fun r X9 H1 L hE hPx hs hk hL => ?_) (fun E ce q9 H1 L hE hs hk hL hce hcv hcl => ?_)
  · have hS := S_app hS hs hk hL (fun q h => .inl h)
    have hPo : va_P G.1 vwCl (lgW G o S.2) H1 := P_o (n := 1) hP.2 Adr.one rfl hk (fun q h1 h2 z => by have h3 := z.1; have h4 := z.2; omega)
    refine lv_i2l (v := r.toInt64) hx hb dL_move_8 rfl ?_
    refine va_last (ws := lgW G o S.2 ++ (stW G (b + 12) (xR X9) ++ cbR G b X9)) hx hb hO.1 (P_app.mpr ⟨hPo, cb_fl hPx⟩) (wx_D hd) hS 0 4 rfl rfl (by unfold vp_in; decide) dL_move_9 (fun H2 locs2 hP2 hD2 hS2 => ?_)
    have hP3 := wx_st hP2
    refine lv_goto (tgt := 21) hx hb dL_move_10 (by decide) ?_
    refine lv_iconst (v := 0) hx hb dL_move_21 (by decide) ?_
    have hw0 : wr "java/lang/IndexOutOfBoundsException" (h_X6_move S.1 c x) S = (0, (X9, vp_updL S.2 (0 : Int32).toNatClampNeg r.toInt64)) := by rw [hE]; rfl
    exact vx_ret (W.iret hx hb hr (fun t ht hW => ⟨by rw [hw0], by rw [hw0, ht]; exact hP3, hS2.F ht⟩) hS2.2.2 dL_move_22)
  · have hS := S_app (fr := blk b (b + 170)) hS hs (fun q h _ => hk q h) (fun z hz => (hL z hz)) (fun q h => .inl h)
    have hPb : WX G b o S H1 := ⟨cb_out (fr := noA) hP.1 (fun q h _ => hk q h) (fun _ _ _ z => z), P_o (n := 1) (fr := noA) hP.2 Adr.one rfl (fun q h _ => hk q h) (fun _ _ _ z => z)⟩
    rcases hth E hE with rfl | rfl
    · refine vx_catch (name := "java/lang/IndexOutOfBoundsException") (E := "java/lang/IndexOutOfBoundsException") hown [] ⟨0, 10, 13, 28⟩ [⟨0, 10, 17, 15⟩] htab (fun z hz => absurd hz List.not_mem_nil) (by decide) (by decide) (hts (.classLink RL 28 "java/lang/IndexOutOfBoundsException") (by decide +kernel)) (hTh.w _ (List.mem_of_getElem? (i := 5) rfl)) hce hcv hcl ?_
      refine lv_astore (lv' := [(4, .ref q9), (0, .ref b), (1, .int c), (2, .int x), (3, .ref o)]) hx hb dL_move_13 hl (by decide) rfl (fun ls hl => ?_)
      refine lv_iconst (v := 1) hx hb dL_move_15 (by decide) ?_
      have hw0 : wr "java/lang/IndexOutOfBoundsException" (h_X6_move S.1 c x) S = (1, S) := by rw [hE, wr]; rw [if_pos rfl]
      exact vx_ret (W.iret hx hb hr (fun t ht hW => ⟨by rw [hw0], by rw [hw0, ht]; exact hPb, hS.F ht⟩) hS.2.2 dL_move_16)
    · refine vx_catch (name := "java/lang/IllegalStateException") (E := "java/lang/IllegalStateException") hown [⟨0, 10, 13, 28⟩] ⟨0, 10, 17, 15⟩ [] htab (fun z hz => by rw [List.mem_singleton.mp hz]; exact .inr ⟨by decide, "java/lang/IndexOutOfBoundsException", hts (.classLink RL 28 "java/lang/IndexOutOfBoundsException") (by decide +kernel), (hN _ (List.mem_of_getElem? (i := 2) rfl))⟩) (by decide) (by decide) (hts (.classLink RL 15 "java/lang/IllegalStateException") (by decide +kernel)) (hTh.w _ (List.mem_of_getElem? (i := 4) rfl)) hce hcv hcl ?_
      refine lv_astore (lv' := [(4, .ref q9), (0, .ref b), (1, .int c), (2, .int x), (3, .ref o)]) hx hb dL_move_17 hl (by decide) rfl (fun ls hl => ?_)
      refine lv_iconst (v := 2) hx hb dL_move_19 (by decide) ?_
      have hw0 : wr "java/lang/IndexOutOfBoundsException" (h_X6_move S.1 c x) S = (2, S) := by rw [hE, wr]; rw [if_neg (by decide)]
      exact vx_ret (W.iret hx hb hr (fun t ht hW => ⟨by rw [hw0], by rw [hw0, ht]; exact hPb, hS.F ht⟩) hS.2.2 dL_move_20)

set_option maxHeartbeats 4000000 in
set_option maxRecDepth 100000 in
theorem c_L_minutes (l : Launch) (G : GG) (b o : Nat) (S : Wx) (mi : Int32) (hst : l.stackTraces = false) (hd : o < b ∨ b + 170 ≤ o) (hO14 : qO (xH S.1) < 14) (hK14 : qK (xH S.1) ≤ 14) : vx_Met l yL_minutes wsL_minutes ({ frames := 9, cells := 1, slots := 6, locals := 141 }) (PcN G (wfr b o) [.ref b, .int mi, .ref o] (WX G b o S)) (QM (some (.int (wr "java/lang/IllegalArgumentException" (h_X6_minutes S.1 mi) S).1)) (WX G b o (wr "java/lang/IllegalArgumentException" (h_X6_minutes S.1 mi) S).2) (wfr b o)) XNo 1 6 (wfr b o) := by
  have hth : ∀ E, h_X6_minutes S.1 mi = .inl E → E = "java/lang/IllegalArgumentException" := fun E => th_minutes S.1 mi E
  refine metW (cc := cL_minutes) (maxL := 4) (ret := (some .int)) (hh := [(0, 9, 12, 13)]) (by decide) rfl ?_
  intro p e s m below meth cd hx hb hr hml hown hts hlocks htab hP hO hTh hN
  have hS : va_S (wfr b o) s.heap s.heap [] := va_S.rf
  have hl := lv_entry ([.ref b, .int mi, .ref o]) (n := 4) (Nat.le_of_ble_eq_true rfl)
  rw [lg_entry_eq]
  generalize (lg_sl ([.ref b, .int mi, .ref o]) ++ List.replicate (4 - (lg_sl ([.ref b, .int mi, .ref o])).length) Slot.unset).toArray = ls at hl ⊢
  have hl : lv_has ls 4 [(0, .ref b), (1, .int mi), (2, .ref o)] := hl
  refine lv_aload_n hx hb dL_minutes_0 rfl (lv_at hl 2 rfl) ?_
  refine lv_iconst (v := 0) hx hb dL_minutes_1 (by decide) ?_
  refine lv_aload_n hx hb dL_minutes_2 rfl (lv_at hl 0 rfl) ?_
  refine lv_iload_n hx hb dL_minutes_3 rfl (lv_at hl 1 rfl) ?_
  refine cl_xi (xW (A := blk b (b + 170)) (As := [.int mi]) (rest := [.int 0, .ref o]) ⟨hx, hb, hml, hown, hts⟩ (c_X6_minutes l G b S.1 mi hst hO14 hK14) (cwV 1 hts gL_minutes_X6_minutes rfl rfl rfl (by decide +kernel) ⟨Nat.le_of_ble_eq_true rfl, Nat.le_of_ble_eq_true rfl⟩) (cb_recv hO hP.1) hP.1 hO (fun U hU hW => (hTh.warm hW hU).sub fun q h => .inl h) rfl hl.1 (Nat.le_of_ble_eq_true rfl) dL_minutes_4 ⟨Nat.le_of_ble_eq_true rfl, Nat.le_of_ble_eq_true rfl⟩) (fun r X9 H1 L hE hPx hs hk hL => ?_) (fun E ce q9 H1 L hE hs hk hL hce hcv hcl => ?_)
  · have hS := S_app hS hs hk hL (fun q h => .inl h)
    have hPo : va_P G.1 vwCl (lgW G o S.2) H1 := P_o (n := 1) hP.2 Adr.one rfl hk (fun q h1 h2 z => by have h3 := z.1; have h4 := z.2; omega)
    refine lv_i2l (v := r.toInt64) hx hb dL_minutes_7 rfl ?_
    refine va_last (ws := lgW G o S.2 ++ (stW G (b + 12) (xR X9) ++ cbR G b X9)) hx hb hO.1 (P_app.mpr ⟨hPo, cb_fl hPx⟩) (wx_D hd) hS 0 4 rfl rfl (by unfold vp_in; decide) dL_minutes_8 (fun H2 locs2 hP2 hD2 hS2 => ?_)
    have hP3 := wx_st hP2
    refine lv_goto (tgt := 15) hx hb dL_minutes_9 (by decide) ?_
    refine lv_iconst (v := 0) hx hb dL_minutes_15 (by decide) ?_
    have hw0 : wr "java/lang/IllegalArgumentException" (h_X6_minutes S.1 mi) S = (0, (X9, vp_updL S.2 (0 : Int32).toNatClampNeg r.toInt64)) := by rw [hE]; rfl
    exact vx_ret (W.iret hx hb hr (fun t ht hW => ⟨by rw [hw0], by rw [hw0, ht]; exact hP3, hS2.F ht⟩) hS2.2.2 dL_minutes_16)
  · have hS := S_app (fr := blk b (b + 170)) hS hs (fun q h _ => hk q h) (fun z hz => (hL z hz)) (fun q h => .inl h)
    have hPb : WX G b o S H1 := ⟨cb_out (fr := noA) hP.1 (fun q h _ => hk q h) (fun _ _ _ z => z), P_o (n := 1) (fr := noA) hP.2 Adr.one rfl (fun q h _ => hk q h) (fun _ _ _ z => z)⟩
    obtain rfl := hth E hE
    refine vx_catch (name := "java/lang/IllegalArgumentException") (E := "java/lang/IllegalArgumentException") hown [] ⟨0, 9, 12, 13⟩ [] htab (fun z hz => absurd hz List.not_mem_nil) (by decide) (by decide) (hts (.classLink RL 13 "java/lang/IllegalArgumentException") (by decide +kernel)) (hTh.w _ (List.mem_of_getElem? (i := 3) rfl)) hce hcv hcl ?_
    refine lv_astore_n (lv' := [(3, .ref q9), (0, .ref b), (1, .int mi), (2, .ref o)]) hx hb dL_minutes_12 rfl hl (by decide) rfl (fun ls hl => ?_)
    refine lv_iconst (v := 1) hx hb dL_minutes_13 (by decide) ?_
    have hw0 : wr "java/lang/IllegalArgumentException" (h_X6_minutes S.1 mi) S = (1, S) := by rw [hE, wr]; rw [if_pos rfl]
    exact vx_ret (W.iret hx hb hr (fun t ht hW => ⟨by rw [hw0], by rw [hw0, ht]; exact hPb, hS.F ht⟩) hS.2.2 dL_minutes_14)

set_option maxHeartbeats 4000000 in
set_option maxRecDepth 100000 in
theorem c_L_set (l : Launch) (G : GG) (b o : Nat) (S : Wx) (w : Int32) (v : Int32) (hst : l.stackTraces = false) (hd : o < b ∨ b + 170 ≤ o) (hO14 : qO (xH S.1) < 14) (hK14 : qK (xH S.1) ≤ 14) : vx_Met l yL_set wsL_set ({ frames := 9, cells := 1, slots := 6, locals := 142 }) (PcN G (wfr b o) [.ref b, .int w, .int v, .ref o] (WX G b o S)) (QM (some (.int (wr "java/lang/IllegalArgumentException" (h_X6_set S.1 w v) S).1)) (WX G b o (wr "java/lang/IllegalArgumentException" (h_X6_set S.1 w v) S).2) (wfr b o)) XNo 1 6 (wfr b o) := by
  have hth : ∀ E, h_X6_set S.1 w v = .inl E → E = "java/lang/IllegalArgumentException" := fun E => th_set S.1 w v E
  refine metW (cc := cL_set) (maxL := 5) (ret := (some .int)) (hh := [(0, 10, 13, 13)]) (by decide) rfl ?_
  intro p e s m below meth cd hx hb hr hml hown hts hlocks htab hP hO hTh hN
  have hS : va_S (wfr b o) s.heap s.heap [] := va_S.rf
  have hl := lv_entry ([.ref b, .int w, .int v, .ref o]) (n := 5) (Nat.le_of_ble_eq_true rfl)
  rw [lg_entry_eq]
  generalize (lg_sl ([.ref b, .int w, .int v, .ref o]) ++ List.replicate (5 - (lg_sl ([.ref b, .int w, .int v, .ref o])).length) Slot.unset).toArray = ls at hl ⊢
  have hl : lv_has ls 5 [(0, .ref b), (1, .int w), (2, .int v), (3, .ref o)] := hl
  refine lv_aload_n hx hb dL_set_0 rfl (lv_at hl 3 rfl) ?_
  refine lv_iconst (v := 0) hx hb dL_set_1 (by decide) ?_
  refine lv_aload_n hx hb dL_set_2 rfl (lv_at hl 0 rfl) ?_
  refine lv_iload_n hx hb dL_set_3 rfl (lv_at hl 1 rfl) ?_
  refine lv_iload_n hx hb dL_set_4 rfl (lv_at hl 2 rfl) ?_
  refine cl_xi (xW (A := blk b (b + 170)) (As := [.int w, .int v]) (rest := [.int 0, .ref o]) ⟨hx, hb, hml, hown, hts⟩ (c_X6_set l G b S.1 w v hst hO14 hK14) (cwV 2 hts gL_set_X6_set rfl rfl rfl (by decide +kernel) ⟨Nat.le_of_ble_eq_true rfl, Nat.le_of_ble_eq_true rfl⟩) (cb_recv hO hP.1) hP.1 hO (fun U hU hW => (hTh.warm hW hU).sub fun q h => .inl h) rfl hl.1 (Nat.le_of_ble_eq_true rfl) dL_set_5 ⟨Nat.le_of_ble_eq_true rfl, Nat.le_of_ble_eq_true rfl⟩) (fun r X9 H1 L hE hPx hs hk hL => ?_) (fun E ce q9 H1 L hE hs hk hL hce hcv hcl => ?_)
  · have hS := S_app hS hs hk hL (fun q h => .inl h)
    have hPo : va_P G.1 vwCl (lgW G o S.2) H1 := P_o (n := 1) hP.2 Adr.one rfl hk (fun q h1 h2 z => by have h3 := z.1; have h4 := z.2; omega)
    refine lv_i2l (v := r.toInt64) hx hb dL_set_8 rfl ?_
    refine va_last (ws := lgW G o S.2 ++ (stW G (b + 12) (xR X9) ++ cbR G b X9)) hx hb hO.1 (P_app.mpr ⟨hPo, cb_fl hPx⟩) (wx_D hd) hS 0 4 rfl rfl (by unfold vp_in; decide) dL_set_9 (fun H2 locs2 hP2 hD2 hS2 => ?_)
    have hP3 := wx_st hP2
    refine lv_goto (tgt := 17) hx hb dL_set_10 (by decide) ?_
    refine lv_iconst (v := 0) hx hb dL_set_17 (by decide) ?_
    have hw0 : wr "java/lang/IllegalArgumentException" (h_X6_set S.1 w v) S = (0, (X9, vp_updL S.2 (0 : Int32).toNatClampNeg r.toInt64)) := by rw [hE]; rfl
    exact vx_ret (W.iret hx hb hr (fun t ht hW => ⟨by rw [hw0], by rw [hw0, ht]; exact hP3, hS2.F ht⟩) hS2.2.2 dL_set_18)
  · have hS := S_app (fr := blk b (b + 170)) hS hs (fun q h _ => hk q h) (fun z hz => (hL z hz)) (fun q h => .inl h)
    have hPb : WX G b o S H1 := ⟨cb_out (fr := noA) hP.1 (fun q h _ => hk q h) (fun _ _ _ z => z), P_o (n := 1) (fr := noA) hP.2 Adr.one rfl (fun q h _ => hk q h) (fun _ _ _ z => z)⟩
    obtain rfl := hth E hE
    refine vx_catch (name := "java/lang/IllegalArgumentException") (E := "java/lang/IllegalArgumentException") hown [] ⟨0, 10, 13, 13⟩ [] htab (fun z hz => absurd hz List.not_mem_nil) (by decide) (by decide) (hts (.classLink RL 13 "java/lang/IllegalArgumentException") (by decide +kernel)) (hTh.w _ (List.mem_of_getElem? (i := 3) rfl)) hce hcv hcl ?_
    refine lv_astore (lv' := [(4, .ref q9), (0, .ref b), (1, .int w), (2, .int v), (3, .ref o)]) hx hb dL_set_13 hl (by decide) rfl (fun ls hl => ?_)
    refine lv_iconst (v := 1) hx hb dL_set_15 (by decide) ?_
    have hw0 : wr "java/lang/IllegalArgumentException" (h_X6_set S.1 w v) S = (1, S) := by rw [hE, wr]; rw [if_pos rfl]
    exact vx_ret (W.iret hx hb hr (fun t ht hW => ⟨by rw [hw0], by rw [hw0, ht]; exact hPb, hS.F ht⟩) hS.2.2 dL_set_16)

set_option maxHeartbeats 4000000 in
set_option maxRecDepth 100000 in
theorem c_L_undo (l : Launch) (G : GG) (b o : Nat) (S : Wx) (hst : l.stackTraces = false) (hd : o < b ∨ b + 170 ≤ o) (hO14 : qO (xH S.1) < 14) (hK14 : qK (xH S.1) ≤ 14) : vx_Met l yL_undo wsL_undo ({ frames := 9, cells := 1, slots := 6, locals := 140 }) (PcN G (wfr b o) [.ref b, .ref o] (WX G b o S)) (QM (some (.int (wr "java/lang/IllegalStateException" (h_X6_undo S.1) S).1)) (WX G b o (wr "java/lang/IllegalStateException" (h_X6_undo S.1) S).2) (wfr b o)) XNo 1 6 (wfr b o) := by
  have hth : ∀ E, h_X6_undo S.1 = .inl E → E = "java/lang/IllegalStateException" := fun E => th_undo S.1 E
  refine metW (cc := cL_undo) (maxL := 3) (ret := (some .int)) (hh := [(0, 8, 11, 15)]) (by decide) rfl ?_
  intro p e s m below meth cd hx hb hr hml hown hts hlocks htab hP hO hTh hN
  have hS : va_S (wfr b o) s.heap s.heap [] := va_S.rf
  have hl := lv_entry ([.ref b, .ref o]) (n := 3) (Nat.le_of_ble_eq_true rfl)
  rw [lg_entry_eq]
  generalize (lg_sl ([.ref b, .ref o]) ++ List.replicate (3 - (lg_sl ([.ref b, .ref o])).length) Slot.unset).toArray = ls at hl ⊢
  have hl : lv_has ls 3 [(0, .ref b), (1, .ref o)] := hl
  refine lv_aload_n hx hb dL_undo_0 rfl (lv_at hl 1 rfl) ?_
  refine lv_iconst (v := 0) hx hb dL_undo_1 (by decide) ?_
  refine lv_aload_n hx hb dL_undo_2 rfl (lv_at hl 0 rfl) ?_
  refine cl_xi (xW (A := blk b (b + 170)) (As := []) (rest := [.int 0, .ref o]) ⟨hx, hb, hml, hown, hts⟩ (c_X6_undo l G b S.1 hst hO14 hK14) (cwV 0 hts gL_undo_X6_undo rfl rfl rfl (by decide +kernel) ⟨Nat.le_of_ble_eq_true rfl, Nat.le_of_ble_eq_true rfl⟩) (cb_recv hO hP.1) hP.1 hO (fun U hU hW => (hTh.warm hW hU).sub fun q h => .inl h) rfl hl.1 (Nat.le_of_ble_eq_true rfl) dL_undo_3 ⟨Nat.le_of_ble_eq_true rfl, Nat.le_of_ble_eq_true rfl⟩) (fun r X9 H1 L hE hPx hs hk hL => ?_) (fun E ce q9 H1 L hE hs hk hL hce hcv hcl => ?_)
  · have hS := S_app hS hs hk hL (fun q h => .inl h)
    have hPo : va_P G.1 vwCl (lgW G o S.2) H1 := P_o (n := 1) hP.2 Adr.one rfl hk (fun q h1 h2 z => by have h3 := z.1; have h4 := z.2; omega)
    refine lv_i2l (v := r.toInt64) hx hb dL_undo_6 rfl ?_
    refine va_last (ws := lgW G o S.2 ++ (stW G (b + 12) (xR X9) ++ cbR G b X9)) hx hb hO.1 (P_app.mpr ⟨hPo, cb_fl hPx⟩) (wx_D hd) hS 0 4 rfl rfl (by unfold vp_in; decide) dL_undo_7 (fun H2 locs2 hP2 hD2 hS2 => ?_)
    have hP3 := wx_st hP2
    refine lv_goto (tgt := 14) hx hb dL_undo_8 (by decide) ?_
    refine lv_iconst (v := 0) hx hb dL_undo_14 (by decide) ?_
    have hw0 : wr "java/lang/IllegalStateException" (h_X6_undo S.1) S = (0, (X9, vp_updL S.2 (0 : Int32).toNatClampNeg r.toInt64)) := by rw [hE]; rfl
    exact vx_ret (W.iret hx hb hr (fun t ht hW => ⟨by rw [hw0], by rw [hw0, ht]; exact hP3, hS2.F ht⟩) hS2.2.2 dL_undo_15)
  · have hS := S_app (fr := blk b (b + 170)) hS hs (fun q h _ => hk q h) (fun z hz => (hL z hz)) (fun q h => .inl h)
    have hPb : WX G b o S H1 := ⟨cb_out (fr := noA) hP.1 (fun q h _ => hk q h) (fun _ _ _ z => z), P_o (n := 1) (fr := noA) hP.2 Adr.one rfl (fun q h _ => hk q h) (fun _ _ _ z => z)⟩
    obtain rfl := hth E hE
    refine vx_catch (name := "java/lang/IllegalStateException") (E := "java/lang/IllegalStateException") hown [] ⟨0, 8, 11, 15⟩ [] htab (fun z hz => absurd hz List.not_mem_nil) (by decide) (by decide) (hts (.classLink RL 15 "java/lang/IllegalStateException") (by decide +kernel)) (hTh.w _ (List.mem_of_getElem? (i := 4) rfl)) hce hcv hcl ?_
    refine lv_astore_n (lv' := [(2, .ref q9), (0, .ref b), (1, .ref o)]) hx hb dL_undo_11 rfl hl (by decide) rfl (fun ls hl => ?_)
    refine lv_iconst (v := 1) hx hb dL_undo_12 (by decide) ?_
    have hw0 : wr "java/lang/IllegalStateException" (h_X6_undo S.1) S = (1, S) := by rw [hE, wr]; rw [if_pos rfl]
    exact vx_ret (W.iret hx hb hr (fun t ht hW => ⟨by rw [hw0], by rw [hw0, ht]; exact hPb, hS.F ht⟩) hS.2.2 dL_undo_13)

set_option maxHeartbeats 4000000 in
set_option maxRecDepth 100000 in
theorem c_L_why (l : Launch) (G : GG) (b o : Nat) (S : Wx) (len : Int32) (hst : l.stackTraces = false) (hd : o < b ∨ b + 170 ≤ o) : vx_Met l yL_why wsL_why ({ frames := 10, cells := 1, slots := 6, locals := 161 }) (PcN G (wfr b o) [.ref b, .int len, .ref o] (WX G b o S)) (QM (some (.int (wr "java/lang/IllegalArgumentException" (h_X6_why S.1 len) S).1)) (WX G b o (wr "java/lang/IllegalArgumentException" (h_X6_why S.1 len) S).2) (wfr b o)) XNo 1 6 (wfr b o) := by
  have hth : ∀ E, h_X6_why S.1 len = .inl E → E = "java/lang/IllegalArgumentException" := fun E => th_why S.1 len E
  refine metW (cc := cL_why) (maxL := 4) (ret := (some .int)) (hh := [(0, 9, 12, 13)]) (by decide) rfl ?_
  intro p e s m below meth cd hx hb hr hml hown hts hlocks htab hP hO hTh hN
  have hS : va_S (wfr b o) s.heap s.heap [] := va_S.rf
  have hl := lv_entry ([.ref b, .int len, .ref o]) (n := 4) (Nat.le_of_ble_eq_true rfl)
  rw [lg_entry_eq]
  generalize (lg_sl ([.ref b, .int len, .ref o]) ++ List.replicate (4 - (lg_sl ([.ref b, .int len, .ref o])).length) Slot.unset).toArray = ls at hl ⊢
  have hl : lv_has ls 4 [(0, .ref b), (1, .int len), (2, .ref o)] := hl
  refine lv_aload_n hx hb dL_why_0 rfl (lv_at hl 2 rfl) ?_
  refine lv_iconst (v := 0) hx hb dL_why_1 (by decide) ?_
  refine lv_aload_n hx hb dL_why_2 rfl (lv_at hl 0 rfl) ?_
  refine lv_iload_n hx hb dL_why_3 rfl (lv_at hl 1 rfl) ?_
  refine cl_xi (xW (A := blk b (b + 170)) (As := [.int len]) (rest := [.int 0, .ref o]) ⟨hx, hb, hml, hown, hts⟩ (c_X6_why l G b S.1 len hst) (cwV 1 hts gL_why_X6_why rfl rfl rfl (by decide +kernel) ⟨Nat.le_of_ble_eq_true rfl, Nat.le_of_ble_eq_true rfl⟩) (cb_recv hO hP.1) hP.1 hO (fun U hU hW => (hTh.warm hW hU).sub fun q h => .inl h) rfl hl.1 (Nat.le_of_ble_eq_true rfl) dL_why_4 ⟨Nat.le_of_ble_eq_true rfl, Nat.le_of_ble_eq_true rfl⟩) (fun r X9 H1 L hE hPx hs hk hL => ?_) (fun E ce q9 H1 L hE hs hk hL hce hcv hcl => ?_)
  · have hS := S_app hS hs hk hL (fun q h => .inl h)
    have hPo : va_P G.1 vwCl (lgW G o S.2) H1 := P_o (n := 1) hP.2 Adr.one rfl hk (fun q h1 h2 z => by have h3 := z.1; have h4 := z.2; omega)
    refine lv_i2l (v := r.toInt64) hx hb dL_why_7 rfl ?_
    refine va_last (ws := lgW G o S.2 ++ (stW G (b + 12) (xR X9) ++ cbR G b X9)) hx hb hO.1 (P_app.mpr ⟨hPo, cb_fl hPx⟩) (wx_D hd) hS 0 4 rfl rfl (by unfold vp_in; decide) dL_why_8 (fun H2 locs2 hP2 hD2 hS2 => ?_)
    have hP3 := wx_st hP2
    refine lv_goto (tgt := 15) hx hb dL_why_9 (by decide) ?_
    refine lv_iconst (v := 0) hx hb dL_why_15 (by decide) ?_
    have hw0 : wr "java/lang/IllegalArgumentException" (h_X6_why S.1 len) S = (0, (X9, vp_updL S.2 (0 : Int32).toNatClampNeg r.toInt64)) := by rw [hE]; rfl
    exact vx_ret (W.iret hx hb hr (fun t ht hW => ⟨by rw [hw0], by rw [hw0, ht]; exact hP3, hS2.F ht⟩) hS2.2.2 dL_why_16)
  · have hS := S_app (fr := blk b (b + 170)) hS hs (fun q h _ => hk q h) (fun z hz => (hL z hz)) (fun q h => .inl h)
    have hPb : WX G b o S H1 := ⟨cb_out (fr := noA) hP.1 (fun q h _ => hk q h) (fun _ _ _ z => z), P_o (n := 1) (fr := noA) hP.2 Adr.one rfl (fun q h _ => hk q h) (fun _ _ _ z => z)⟩
    obtain rfl := hth E hE
    refine vx_catch (name := "java/lang/IllegalArgumentException") (E := "java/lang/IllegalArgumentException") hown [] ⟨0, 9, 12, 13⟩ [] htab (fun z hz => absurd hz List.not_mem_nil) (by decide) (by decide) (hts (.classLink RL 13 "java/lang/IllegalArgumentException") (by decide +kernel)) (hTh.w _ (List.mem_of_getElem? (i := 3) rfl)) hce hcv hcl ?_
    refine lv_astore_n (lv' := [(3, .ref q9), (0, .ref b), (1, .int len), (2, .ref o)]) hx hb dL_why_12 rfl hl (by decide) rfl (fun ls hl => ?_)
    refine lv_iconst (v := 1) hx hb dL_why_13 (by decide) ?_
    have hw0 : wr "java/lang/IllegalArgumentException" (h_X6_why S.1 len) S = (1, S) := by rw [hE, wr]; rw [if_pos rfl]
    exact vx_ret (W.iret hx hb hr (fun t ht hW => ⟨by rw [hw0], by rw [hw0, ht]; exact hPb, hS.F ht⟩) hS.2.2 dL_why_14)

set_option maxHeartbeats 4000000 in
set_option maxRecDepth 100000 in
theorem c_L_place (l : Launch) (G : GG) (b o : Nat) (S : Wx) (len : Int32) (hst : l.stackTraces = false) (hd : o < b ∨ b + 170 ≤ o) : vx_Met l yL_place wsL_place ({ frames := 10, cells := 1, slots := 6, locals := 161 }) (PcN G (wfr b o) [.ref b, .int len, .ref o] (WX G b o S)) (QM (some (.int (wr "java/lang/IllegalArgumentException" (h_X6_place S.1 len) S).1)) (WX G b o (wr "java/lang/IllegalArgumentException" (h_X6_place S.1 len) S).2) (wfr b o)) XNo 1 6 (wfr b o) := by
  have hth : ∀ E, h_X6_place S.1 len = .inl E → E = "java/lang/IllegalArgumentException" := fun E => th_place S.1 len E
  refine metW (cc := cL_place) (maxL := 4) (ret := (some .int)) (hh := [(0, 9, 12, 13)]) (by decide) rfl ?_
  intro p e s m below meth cd hx hb hr hml hown hts hlocks htab hP hO hTh hN
  have hS : va_S (wfr b o) s.heap s.heap [] := va_S.rf
  have hl := lv_entry ([.ref b, .int len, .ref o]) (n := 4) (Nat.le_of_ble_eq_true rfl)
  rw [lg_entry_eq]
  generalize (lg_sl ([.ref b, .int len, .ref o]) ++ List.replicate (4 - (lg_sl ([.ref b, .int len, .ref o])).length) Slot.unset).toArray = ls at hl ⊢
  have hl : lv_has ls 4 [(0, .ref b), (1, .int len), (2, .ref o)] := hl
  refine lv_aload_n hx hb dL_place_0 rfl (lv_at hl 2 rfl) ?_
  refine lv_iconst (v := 0) hx hb dL_place_1 (by decide) ?_
  refine lv_aload_n hx hb dL_place_2 rfl (lv_at hl 0 rfl) ?_
  refine lv_iload_n hx hb dL_place_3 rfl (lv_at hl 1 rfl) ?_
  refine cl_xi (xW (A := blk b (b + 170)) (As := [.int len]) (rest := [.int 0, .ref o]) ⟨hx, hb, hml, hown, hts⟩ (c_X6_place l G b S.1 len hst) (cwV 1 hts gL_place_X6_place rfl rfl rfl (by decide +kernel) ⟨Nat.le_of_ble_eq_true rfl, Nat.le_of_ble_eq_true rfl⟩) (cb_recv hO hP.1) hP.1 hO (fun U hU hW => (hTh.warm hW hU).sub fun q h => .inl h) rfl hl.1 (Nat.le_of_ble_eq_true rfl) dL_place_4 ⟨Nat.le_of_ble_eq_true rfl, Nat.le_of_ble_eq_true rfl⟩) (fun r X9 H1 L hE hPx hs hk hL => ?_) (fun E ce q9 H1 L hE hs hk hL hce hcv hcl => ?_)
  · have hS := S_app hS hs hk hL (fun q h => .inl h)
    have hPo : va_P G.1 vwCl (lgW G o S.2) H1 := P_o (n := 1) hP.2 Adr.one rfl hk (fun q h1 h2 z => by have h3 := z.1; have h4 := z.2; omega)
    refine lv_i2l (v := r.toInt64) hx hb dL_place_7 rfl ?_
    refine va_last (ws := lgW G o S.2 ++ (stW G (b + 12) (xR X9) ++ cbR G b X9)) hx hb hO.1 (P_app.mpr ⟨hPo, cb_fl hPx⟩) (wx_D hd) hS 0 4 rfl rfl (by unfold vp_in; decide) dL_place_8 (fun H2 locs2 hP2 hD2 hS2 => ?_)
    have hP3 := wx_st hP2
    refine lv_goto (tgt := 15) hx hb dL_place_9 (by decide) ?_
    refine lv_iconst (v := 0) hx hb dL_place_15 (by decide) ?_
    have hw0 : wr "java/lang/IllegalArgumentException" (h_X6_place S.1 len) S = (0, (X9, vp_updL S.2 (0 : Int32).toNatClampNeg r.toInt64)) := by rw [hE]; rfl
    exact vx_ret (W.iret hx hb hr (fun t ht hW => ⟨by rw [hw0], by rw [hw0, ht]; exact hP3, hS2.F ht⟩) hS2.2.2 dL_place_16)
  · have hS := S_app (fr := blk b (b + 170)) hS hs (fun q h _ => hk q h) (fun z hz => (hL z hz)) (fun q h => .inl h)
    have hPb : WX G b o S H1 := ⟨cb_out (fr := noA) hP.1 (fun q h _ => hk q h) (fun _ _ _ z => z), P_o (n := 1) (fr := noA) hP.2 Adr.one rfl (fun q h _ => hk q h) (fun _ _ _ z => z)⟩
    obtain rfl := hth E hE
    refine vx_catch (name := "java/lang/IllegalArgumentException") (E := "java/lang/IllegalArgumentException") hown [] ⟨0, 9, 12, 13⟩ [] htab (fun z hz => absurd hz List.not_mem_nil) (by decide) (by decide) (hts (.classLink RL 13 "java/lang/IllegalArgumentException") (by decide +kernel)) (hTh.w _ (List.mem_of_getElem? (i := 3) rfl)) hce hcv hcl ?_
    refine lv_astore_n (lv' := [(3, .ref q9), (0, .ref b), (1, .int len), (2, .ref o)]) hx hb dL_place_12 rfl hl (by decide) rfl (fun ls hl => ?_)
    refine lv_iconst (v := 1) hx hb dL_place_13 (by decide) ?_
    have hw0 : wr "java/lang/IllegalArgumentException" (h_X6_place S.1 len) S = (1, S) := by rw [hE, wr]; rw [if_pos rfl]
    exact vx_ret (W.iret hx hb hr (fun t ht hW => ⟨by rw [hw0], by rw [hw0, ht]; exact hPb, hS.F ht⟩) hS.2.2 dL_place_14)

set_option maxHeartbeats 4000000 in
set_option maxRecDepth 100000 in
theorem c_L_fits (l : Launch) (G : GG) (b o : Nat) (S : Wx) (len : Int32) (way : Int32) (hst : l.stackTraces = false) (hd : o < b ∨ b + 170 ≤ o) : vx_Met l yL_fits wsL_fits ({ frames := 10, cells := 1, slots := 6, locals := 162 }) (PcN G (wfr b o) [.ref b, .int len, .int way, .ref o] (WX G b o S)) (QM (some (.int (wr "java/lang/IllegalArgumentException" (h_X6_fits S.1 len way) S).1)) (WX G b o (wr "java/lang/IllegalArgumentException" (h_X6_fits S.1 len way) S).2) (wfr b o)) XNo 1 6 (wfr b o) := by
  have hth : ∀ E, h_X6_fits S.1 len way = .inl E → E = "java/lang/IllegalArgumentException" := fun E => th_fits S.1 len way E
  refine metW (cc := cL_fits) (maxL := 5) (ret := (some .int)) (hh := [(0, 10, 13, 13)]) (by decide) rfl ?_
  intro p e s m below meth cd hx hb hr hml hown hts hlocks htab hP hO hTh hN
  have hS : va_S (wfr b o) s.heap s.heap [] := va_S.rf
  have hl := lv_entry ([.ref b, .int len, .int way, .ref o]) (n := 5) (Nat.le_of_ble_eq_true rfl)
  rw [lg_entry_eq]
  generalize (lg_sl ([.ref b, .int len, .int way, .ref o]) ++ List.replicate (5 - (lg_sl ([.ref b, .int len, .int way, .ref o])).length) Slot.unset).toArray = ls at hl ⊢
  have hl : lv_has ls 5 [(0, .ref b), (1, .int len), (2, .int way), (3, .ref o)] := hl
  refine lv_aload_n hx hb dL_fits_0 rfl (lv_at hl 3 rfl) ?_
  refine lv_iconst (v := 0) hx hb dL_fits_1 (by decide) ?_
  refine lv_aload_n hx hb dL_fits_2 rfl (lv_at hl 0 rfl) ?_
  refine lv_iload_n hx hb dL_fits_3 rfl (lv_at hl 1 rfl) ?_
  refine lv_iload_n hx hb dL_fits_4 rfl (lv_at hl 2 rfl) ?_
  refine cl_xi (xW (A := blk b (b + 170)) (As := [.int len, .int way]) (rest := [.int 0, .ref o]) ⟨hx, hb, hml, hown, hts⟩ (c_X6_fits l G b S.1 len way hst) (cwV 2 hts gL_fits_X6_fits rfl rfl rfl (by decide +kernel) ⟨Nat.le_of_ble_eq_true rfl, Nat.le_of_ble_eq_true rfl⟩) (cb_recv hO hP.1) hP.1 hO (fun U hU hW => (hTh.warm hW hU).sub fun q h => .inl h) rfl hl.1 (Nat.le_of_ble_eq_true rfl) dL_fits_5 ⟨Nat.le_of_ble_eq_true rfl, Nat.le_of_ble_eq_true rfl⟩) (fun r X9 H1 L hE hPx hs hk hL => ?_) (fun E ce q9 H1 L hE hs hk hL hce hcv hcl => ?_)
  · have hS := S_app hS hs hk hL (fun q h => .inl h)
    have hPo : va_P G.1 vwCl (lgW G o S.2) H1 := P_o (n := 1) hP.2 Adr.one rfl hk (fun q h1 h2 z => by have h3 := z.1; have h4 := z.2; omega)
    refine lv_i2l (v := r.toInt64) hx hb dL_fits_8 rfl ?_
    refine va_last (ws := lgW G o S.2 ++ (stW G (b + 12) (xR X9) ++ cbR G b X9)) hx hb hO.1 (P_app.mpr ⟨hPo, cb_fl hPx⟩) (wx_D hd) hS 0 4 rfl rfl (by unfold vp_in; decide) dL_fits_9 (fun H2 locs2 hP2 hD2 hS2 => ?_)
    have hP3 := wx_st hP2
    refine lv_goto (tgt := 17) hx hb dL_fits_10 (by decide) ?_
    refine lv_iconst (v := 0) hx hb dL_fits_17 (by decide) ?_
    have hw0 : wr "java/lang/IllegalArgumentException" (h_X6_fits S.1 len way) S = (0, (X9, vp_updL S.2 (0 : Int32).toNatClampNeg r.toInt64)) := by rw [hE]; rfl
    exact vx_ret (W.iret hx hb hr (fun t ht hW => ⟨by rw [hw0], by rw [hw0, ht]; exact hP3, hS2.F ht⟩) hS2.2.2 dL_fits_18)
  · have hS := S_app (fr := blk b (b + 170)) hS hs (fun q h _ => hk q h) (fun z hz => (hL z hz)) (fun q h => .inl h)
    have hPb : WX G b o S H1 := ⟨cb_out (fr := noA) hP.1 (fun q h _ => hk q h) (fun _ _ _ z => z), P_o (n := 1) (fr := noA) hP.2 Adr.one rfl (fun q h _ => hk q h) (fun _ _ _ z => z)⟩
    obtain rfl := hth E hE
    refine vx_catch (name := "java/lang/IllegalArgumentException") (E := "java/lang/IllegalArgumentException") hown [] ⟨0, 10, 13, 13⟩ [] htab (fun z hz => absurd hz List.not_mem_nil) (by decide) (by decide) (hts (.classLink RL 13 "java/lang/IllegalArgumentException") (by decide +kernel)) (hTh.w _ (List.mem_of_getElem? (i := 3) rfl)) hce hcv hcl ?_
    refine lv_astore (lv' := [(4, .ref q9), (0, .ref b), (1, .int len), (2, .int way), (3, .ref o)]) hx hb dL_fits_13 hl (by decide) rfl (fun ls hl => ?_)
    refine lv_iconst (v := 1) hx hb dL_fits_15 (by decide) ?_
    have hw0 : wr "java/lang/IllegalArgumentException" (h_X6_fits S.1 len way) S = (1, S) := by rw [hE, wr]; rw [if_pos rfl]
    exact vx_ret (W.iret hx hb hr (fun t ht hW => ⟨by rw [hw0], by rw [hw0, ht]; exact hPb, hS.F ht⟩) hS.2.2 dL_fits_16)

set_option maxHeartbeats 4000000 in
set_option maxRecDepth 100000 in
theorem c_L_gapIn (l : Launch) (G : GG) (b o : Nat) (S : Wx) (len : Int32) (hst : l.stackTraces = false) (hd : o < b ∨ b + 170 ≤ o) : vx_Met l yL_gapIn wsL_gapIn ({ frames := 10, cells := 1, slots := 6, locals := 162 }) (PcN G (wfr b o) [.ref b, .int len, .ref o] (WX G b o S)) (QM (some (.int (wr "java/lang/IllegalArgumentException" (h_X6_gapIn S.1 len) S).1)) (WX G b o (wr "java/lang/IllegalArgumentException" (h_X6_gapIn S.1 len) S).2) (wfr b o)) XNo 1 6 (wfr b o) := by
  have hth : ∀ E, h_X6_gapIn S.1 len = .inl E → E = "java/lang/IllegalArgumentException" := fun E => th_gapIn S.1 len E
  refine metW (cc := cL_gapIn) (maxL := 4) (ret := (some .int)) (hh := [(0, 9, 12, 13)]) (by decide) rfl ?_
  intro p e s m below meth cd hx hb hr hml hown hts hlocks htab hP hO hTh hN
  have hS : va_S (wfr b o) s.heap s.heap [] := va_S.rf
  have hl := lv_entry ([.ref b, .int len, .ref o]) (n := 4) (Nat.le_of_ble_eq_true rfl)
  rw [lg_entry_eq]
  generalize (lg_sl ([.ref b, .int len, .ref o]) ++ List.replicate (4 - (lg_sl ([.ref b, .int len, .ref o])).length) Slot.unset).toArray = ls at hl ⊢
  have hl : lv_has ls 4 [(0, .ref b), (1, .int len), (2, .ref o)] := hl
  refine lv_aload_n hx hb dL_gapIn_0 rfl (lv_at hl 2 rfl) ?_
  refine lv_iconst (v := 0) hx hb dL_gapIn_1 (by decide) ?_
  refine lv_aload_n hx hb dL_gapIn_2 rfl (lv_at hl 0 rfl) ?_
  refine lv_iload_n hx hb dL_gapIn_3 rfl (lv_at hl 1 rfl) ?_
  refine cl_xi (xW (A := blk b (b + 170)) (As := [.int len]) (rest := [.int 0, .ref o]) ⟨hx, hb, hml, hown, hts⟩ (c_X6_gapIn l G b S.1 len hst) (cwV 1 hts gL_gapIn_X6_gapIn rfl rfl rfl (by decide +kernel) ⟨Nat.le_of_ble_eq_true rfl, Nat.le_of_ble_eq_true rfl⟩) (cb_recv hO hP.1) hP.1 hO (fun U hU hW => (hTh.warm hW hU).sub fun q h => .inl h) rfl hl.1 (Nat.le_of_ble_eq_true rfl) dL_gapIn_4 ⟨Nat.le_of_ble_eq_true rfl, Nat.le_of_ble_eq_true rfl⟩) (fun r X9 H1 L hE hPx hs hk hL => ?_) (fun E ce q9 H1 L hE hs hk hL hce hcv hcl => ?_)
  · have hS := S_app hS hs hk hL (fun q h => .inl h)
    have hPo : va_P G.1 vwCl (lgW G o S.2) H1 := P_o (n := 1) hP.2 Adr.one rfl hk (fun q h1 h2 z => by have h3 := z.1; have h4 := z.2; omega)
    refine lv_i2l (v := r.toInt64) hx hb dL_gapIn_7 rfl ?_
    refine va_last (ws := lgW G o S.2 ++ (stW G (b + 12) (xR X9) ++ cbR G b X9)) hx hb hO.1 (P_app.mpr ⟨hPo, cb_fl hPx⟩) (wx_D hd) hS 0 4 rfl rfl (by unfold vp_in; decide) dL_gapIn_8 (fun H2 locs2 hP2 hD2 hS2 => ?_)
    have hP3 := wx_st hP2
    refine lv_goto (tgt := 15) hx hb dL_gapIn_9 (by decide) ?_
    refine lv_iconst (v := 0) hx hb dL_gapIn_15 (by decide) ?_
    have hw0 : wr "java/lang/IllegalArgumentException" (h_X6_gapIn S.1 len) S = (0, (X9, vp_updL S.2 (0 : Int32).toNatClampNeg r.toInt64)) := by rw [hE]; rfl
    exact vx_ret (W.iret hx hb hr (fun t ht hW => ⟨by rw [hw0], by rw [hw0, ht]; exact hP3, hS2.F ht⟩) hS2.2.2 dL_gapIn_16)
  · have hS := S_app (fr := blk b (b + 170)) hS hs (fun q h _ => hk q h) (fun z hz => (hL z hz)) (fun q h => .inl h)
    have hPb : WX G b o S H1 := ⟨cb_out (fr := noA) hP.1 (fun q h _ => hk q h) (fun _ _ _ z => z), P_o (n := 1) (fr := noA) hP.2 Adr.one rfl (fun q h _ => hk q h) (fun _ _ _ z => z)⟩
    obtain rfl := hth E hE
    refine vx_catch (name := "java/lang/IllegalArgumentException") (E := "java/lang/IllegalArgumentException") hown [] ⟨0, 9, 12, 13⟩ [] htab (fun z hz => absurd hz List.not_mem_nil) (by decide) (by decide) (hts (.classLink RL 13 "java/lang/IllegalArgumentException") (by decide +kernel)) (hTh.w _ (List.mem_of_getElem? (i := 3) rfl)) hce hcv hcl ?_
    refine lv_astore_n (lv' := [(3, .ref q9), (0, .ref b), (1, .int len), (2, .ref o)]) hx hb dL_gapIn_12 rfl hl (by decide) rfl (fun ls hl => ?_)
    refine lv_iconst (v := 1) hx hb dL_gapIn_13 (by decide) ?_
    have hw0 : wr "java/lang/IllegalArgumentException" (h_X6_gapIn S.1 len) S = (1, S) := by rw [hE, wr]; rw [if_pos rfl]
    exact vx_ret (W.iret hx hb hr (fun t ht hW => ⟨by rw [hw0], by rw [hw0, ht]; exact hPb, hS.F ht⟩) hS.2.2 dL_gapIn_14)

set_option maxHeartbeats 4000000 in
set_option maxRecDepth 100000 in
theorem c_L_mover (l : Launch) (G : GG) (b o : Nat) (S : Wx) (len : Int32) (w : Int32) (hst : l.stackTraces = false) (hd : o < b ∨ b + 170 ≤ o) : vx_Met l yL_mover wsL_mover ({ frames := 10, cells := 1, slots := 6, locals := 163 }) (PcN G (wfr b o) [.ref b, .int len, .int w, .ref o] (WX G b o S)) (QM (some (.int (wr "java/lang/IllegalArgumentException" (h_X6_mover S.1 len w) S).1)) (WX G b o (wr "java/lang/IllegalArgumentException" (h_X6_mover S.1 len w) S).2) (wfr b o)) XNo 1 6 (wfr b o) := by
  have hth : ∀ E, h_X6_mover S.1 len w = .inl E → E = "java/lang/IllegalArgumentException" := fun E => th_mover S.1 len w E
  refine metW (cc := cL_mover) (maxL := 5) (ret := (some .int)) (hh := [(0, 10, 13, 13)]) (by decide) rfl ?_
  intro p e s m below meth cd hx hb hr hml hown hts hlocks htab hP hO hTh hN
  have hS : va_S (wfr b o) s.heap s.heap [] := va_S.rf
  have hl := lv_entry ([.ref b, .int len, .int w, .ref o]) (n := 5) (Nat.le_of_ble_eq_true rfl)
  rw [lg_entry_eq]
  generalize (lg_sl ([.ref b, .int len, .int w, .ref o]) ++ List.replicate (5 - (lg_sl ([.ref b, .int len, .int w, .ref o])).length) Slot.unset).toArray = ls at hl ⊢
  have hl : lv_has ls 5 [(0, .ref b), (1, .int len), (2, .int w), (3, .ref o)] := hl
  refine lv_aload_n hx hb dL_mover_0 rfl (lv_at hl 3 rfl) ?_
  refine lv_iconst (v := 0) hx hb dL_mover_1 (by decide) ?_
  refine lv_aload_n hx hb dL_mover_2 rfl (lv_at hl 0 rfl) ?_
  refine lv_iload_n hx hb dL_mover_3 rfl (lv_at hl 1 rfl) ?_
  refine lv_iload_n hx hb dL_mover_4 rfl (lv_at hl 2 rfl) ?_
  refine cl_xi (xW (A := blk b (b + 170)) (As := [.int len, .int w]) (rest := [.int 0, .ref o]) ⟨hx, hb, hml, hown, hts⟩ (c_X6_mover l G b S.1 len w hst) (cwV 2 hts gL_mover_X6_mover rfl rfl rfl (by decide +kernel) ⟨Nat.le_of_ble_eq_true rfl, Nat.le_of_ble_eq_true rfl⟩) (cb_recv hO hP.1) hP.1 hO (fun U hU hW => (hTh.warm hW hU).sub fun q h => .inl h) rfl hl.1 (Nat.le_of_ble_eq_true rfl) dL_mover_5 ⟨Nat.le_of_ble_eq_true rfl, Nat.le_of_ble_eq_true rfl⟩) (fun r X9 H1 L hE hPx hs hk hL => ?_) (fun E ce q9 H1 L hE hs hk hL hce hcv hcl => ?_)
  · have hS := S_app hS hs hk hL (fun q h => .inl h)
    have hPo : va_P G.1 vwCl (lgW G o S.2) H1 := P_o (n := 1) hP.2 Adr.one rfl hk (fun q h1 h2 z => by have h3 := z.1; have h4 := z.2; omega)
    refine lv_i2l (v := r.toInt64) hx hb dL_mover_8 rfl ?_
    refine va_last (ws := lgW G o S.2 ++ (stW G (b + 12) (xR X9) ++ cbR G b X9)) hx hb hO.1 (P_app.mpr ⟨hPo, cb_fl hPx⟩) (wx_D hd) hS 0 4 rfl rfl (by unfold vp_in; decide) dL_mover_9 (fun H2 locs2 hP2 hD2 hS2 => ?_)
    have hP3 := wx_st hP2
    refine lv_goto (tgt := 17) hx hb dL_mover_10 (by decide) ?_
    refine lv_iconst (v := 0) hx hb dL_mover_17 (by decide) ?_
    have hw0 : wr "java/lang/IllegalArgumentException" (h_X6_mover S.1 len w) S = (0, (X9, vp_updL S.2 (0 : Int32).toNatClampNeg r.toInt64)) := by rw [hE]; rfl
    exact vx_ret (W.iret hx hb hr (fun t ht hW => ⟨by rw [hw0], by rw [hw0, ht]; exact hP3, hS2.F ht⟩) hS2.2.2 dL_mover_18)
  · have hS := S_app (fr := blk b (b + 170)) hS hs (fun q h _ => hk q h) (fun z hz => (hL z hz)) (fun q h => .inl h)
    have hPb : WX G b o S H1 := ⟨cb_out (fr := noA) hP.1 (fun q h _ => hk q h) (fun _ _ _ z => z), P_o (n := 1) (fr := noA) hP.2 Adr.one rfl (fun q h _ => hk q h) (fun _ _ _ z => z)⟩
    obtain rfl := hth E hE
    refine vx_catch (name := "java/lang/IllegalArgumentException") (E := "java/lang/IllegalArgumentException") hown [] ⟨0, 10, 13, 13⟩ [] htab (fun z hz => absurd hz List.not_mem_nil) (by decide) (by decide) (hts (.classLink RL 13 "java/lang/IllegalArgumentException") (by decide +kernel)) (hTh.w _ (List.mem_of_getElem? (i := 3) rfl)) hce hcv hcl ?_
    refine lv_astore (lv' := [(4, .ref q9), (0, .ref b), (1, .int len), (2, .int w), (3, .ref o)]) hx hb dL_mover_13 hl (by decide) rfl (fun ls hl => ?_)
    refine lv_iconst (v := 1) hx hb dL_mover_15 (by decide) ?_
    have hw0 : wr "java/lang/IllegalArgumentException" (h_X6_mover S.1 len w) S = (1, S) := by rw [hE, wr]; rw [if_pos rfl]
    exact vx_ret (W.iret hx hb hr (fun t ht hW => ⟨by rw [hw0], by rw [hw0, ht]; exact hPb, hS.F ht⟩) hS.2.2 dL_mover_16)

set_option maxHeartbeats 4000000 in
set_option maxRecDepth 100000 in
theorem c_L_jam (l : Launch) (G : GG) (b o : Nat) (S : Wx) (len : Int32) (sd : Int64) (hst : l.stackTraces = false) (hd : o < b ∨ b + 170 ≤ o) : vx_Met l yL_jam wsL_jam ({ frames := 10, cells := 1, slots := 6, locals := 163 }) (PcN G (wfr b o) [.ref b, .int len, .long sd, .ref o] (WX G b o S)) (QM (some (.int (wr "java/lang/IllegalArgumentException" (h_X6_jam S.1 len sd) S).1)) (WX G b o (wr "java/lang/IllegalArgumentException" (h_X6_jam S.1 len sd) S).2) (wfr b o)) XNo 1 6 (wfr b o) := by
  have hth : ∀ E, h_X6_jam S.1 len sd = .inl E → E = "java/lang/IllegalArgumentException" := fun E => th_jam S.1 len sd E
  refine metW (cc := cL_jam) (maxL := 6) (ret := (some .int)) (hh := [(0, 11, 14, 13)]) (by decide) rfl ?_
  intro p e s m below meth cd hx hb hr hml hown hts hlocks htab hP hO hTh hN
  have hS : va_S (wfr b o) s.heap s.heap [] := va_S.rf
  have hl := lv_entry ([.ref b, .int len, .long sd, .ref o]) (n := 6) (Nat.le_of_ble_eq_true rfl)
  rw [lg_entry_eq]
  generalize (lg_sl ([.ref b, .int len, .long sd, .ref o]) ++ List.replicate (6 - (lg_sl ([.ref b, .int len, .long sd, .ref o])).length) Slot.unset).toArray = ls at hl ⊢
  have hl : lv_has ls 6 [(0, .ref b), (1, .int len), (2, .long sd), (4, .ref o)] := hl
  refine lv_aload hx hb dL_jam_0 (lv_at hl 3 rfl) ?_
  refine lv_iconst (v := 0) hx hb dL_jam_2 (by decide) ?_
  refine lv_aload_n hx hb dL_jam_3 rfl (lv_at hl 0 rfl) ?_
  refine lv_iload_n hx hb dL_jam_4 rfl (lv_at hl 1 rfl) ?_
  refine lv_lload_n hx hb dL_jam_5 rfl (lv_at hl 2 rfl) ?_
  refine cl_xi (xW (A := blk b (b + 170)) (As := [.int len, .long sd]) (rest := [.int 0, .ref o]) ⟨hx, hb, hml, hown, hts⟩ (c_X6_jam l G b S.1 len sd hst) (cwV 2 hts gL_jam_X6_jam rfl rfl rfl (by decide +kernel) ⟨Nat.le_of_ble_eq_true rfl, Nat.le_of_ble_eq_true rfl⟩) (cb_recv hO hP.1) hP.1 hO (fun U hU hW => (hTh.warm hW hU).sub fun q h => .inl h) rfl hl.1 (Nat.le_of_ble_eq_true rfl) dL_jam_6 ⟨Nat.le_of_ble_eq_true rfl, Nat.le_of_ble_eq_true rfl⟩) (fun r X9 H1 L hE hPx hs hk hL => ?_) (fun E ce q9 H1 L hE hs hk hL hce hcv hcl => ?_)
  · have hS := S_app hS hs hk hL (fun q h => .inl h)
    have hPo : va_P G.1 vwCl (lgW G o S.2) H1 := P_o (n := 1) hP.2 Adr.one rfl hk (fun q h1 h2 z => by have h3 := z.1; have h4 := z.2; omega)
    refine lv_i2l (v := r.toInt64) hx hb dL_jam_9 rfl ?_
    refine va_last (ws := lgW G o S.2 ++ (stW G (b + 12) (xR X9) ++ cbR G b X9)) hx hb hO.1 (P_app.mpr ⟨hPo, cb_fl hPx⟩) (wx_D hd) hS 0 4 rfl rfl (by unfold vp_in; decide) dL_jam_10 (fun H2 locs2 hP2 hD2 hS2 => ?_)
    have hP3 := wx_st hP2
    refine lv_goto (tgt := 18) hx hb dL_jam_11 (by decide) ?_
    refine lv_iconst (v := 0) hx hb dL_jam_18 (by decide) ?_
    have hw0 : wr "java/lang/IllegalArgumentException" (h_X6_jam S.1 len sd) S = (0, (X9, vp_updL S.2 (0 : Int32).toNatClampNeg r.toInt64)) := by rw [hE]; rfl
    exact vx_ret (W.iret hx hb hr (fun t ht hW => ⟨by rw [hw0], by rw [hw0, ht]; exact hP3, hS2.F ht⟩) hS2.2.2 dL_jam_19)
  · have hS := S_app (fr := blk b (b + 170)) hS hs (fun q h _ => hk q h) (fun z hz => (hL z hz)) (fun q h => .inl h)
    have hPb : WX G b o S H1 := ⟨cb_out (fr := noA) hP.1 (fun q h _ => hk q h) (fun _ _ _ z => z), P_o (n := 1) (fr := noA) hP.2 Adr.one rfl (fun q h _ => hk q h) (fun _ _ _ z => z)⟩
    obtain rfl := hth E hE
    refine vx_catch (name := "java/lang/IllegalArgumentException") (E := "java/lang/IllegalArgumentException") hown [] ⟨0, 11, 14, 13⟩ [] htab (fun z hz => absurd hz List.not_mem_nil) (by decide) (by decide) (hts (.classLink RL 13 "java/lang/IllegalArgumentException") (by decide +kernel)) (hTh.w _ (List.mem_of_getElem? (i := 3) rfl)) hce hcv hcl ?_
    refine lv_astore (lv' := [(5, .ref q9), (0, .ref b), (1, .int len), (2, .long sd), (4, .ref o)]) hx hb dL_jam_14 hl (by decide) rfl (fun ls hl => ?_)
    refine lv_iconst (v := 1) hx hb dL_jam_16 (by decide) ?_
    have hw0 : wr "java/lang/IllegalArgumentException" (h_X6_jam S.1 len sd) S = (1, S) := by rw [hE, wr]; rw [if_pos rfl]
    exact vx_ret (W.iret hx hb hr (fun t ht hW => ⟨by rw [hw0], by rw [hw0, ht]; exact hPb, hS.F ht⟩) hS.2.2 dL_jam_17)

set_option maxHeartbeats 4000000 in
set_option maxRecDepth 100000 in
theorem c_L_runScript (l : Launch) (G : GG) (b o : Nat) (S : Wx) (w : Int32) (sc : Int64) (hst : l.stackTraces = false) (hd : o < b ∨ b + 170 ≤ o) : vx_Met l yL_runScript wsL_runScript ({ frames := 9, cells := 1, slots := 6, locals := 169 }) (PcN G (wfr b o) [.ref b, .int w, .long sc, .ref o] (WX G b o S)) (QM (some (.int (wr "java/lang/IllegalArgumentException" (h_X6_runScript S.1 w sc) S).1)) (WX G b o (wr "java/lang/IllegalArgumentException" (h_X6_runScript S.1 w sc) S).2) (wfr b o)) XNo 1 6 (wfr b o) := by
  have hth : ∀ E, h_X6_runScript S.1 w sc = .inl E → E = "java/lang/IllegalArgumentException" := fun E => th_runScript S.1 w sc E
  refine metW (cc := cL_runScript) (maxL := 6) (ret := (some .int)) (hh := [(0, 11, 14, 13)]) (by decide) rfl ?_
  intro p e s m below meth cd hx hb hr hml hown hts hlocks htab hP hO hTh hN
  have hS : va_S (wfr b o) s.heap s.heap [] := va_S.rf
  have hl := lv_entry ([.ref b, .int w, .long sc, .ref o]) (n := 6) (Nat.le_of_ble_eq_true rfl)
  rw [lg_entry_eq]
  generalize (lg_sl ([.ref b, .int w, .long sc, .ref o]) ++ List.replicate (6 - (lg_sl ([.ref b, .int w, .long sc, .ref o])).length) Slot.unset).toArray = ls at hl ⊢
  have hl : lv_has ls 6 [(0, .ref b), (1, .int w), (2, .long sc), (4, .ref o)] := hl
  refine lv_aload hx hb dL_runScript_0 (lv_at hl 3 rfl) ?_
  refine lv_iconst (v := 0) hx hb dL_runScript_2 (by decide) ?_
  refine lv_aload_n hx hb dL_runScript_3 rfl (lv_at hl 0 rfl) ?_
  refine lv_iload_n hx hb dL_runScript_4 rfl (lv_at hl 1 rfl) ?_
  refine lv_lload_n hx hb dL_runScript_5 rfl (lv_at hl 2 rfl) ?_
  refine cl_xi (xW (A := blk b (b + 170)) (As := [.int w, .long sc]) (rest := [.int 0, .ref o]) ⟨hx, hb, hml, hown, hts⟩ (c_X6_runScript l G b S.1 w sc hst) (cwV 2 hts gL_runScript_X6_runScript rfl rfl rfl (by decide +kernel) ⟨Nat.le_of_ble_eq_true rfl, Nat.le_of_ble_eq_true rfl⟩) (cb_recv hO hP.1) hP.1 hO (fun U hU hW => (hTh.warm hW hU).sub fun q h => .inl h) rfl hl.1 (Nat.le_of_ble_eq_true rfl) dL_runScript_6 ⟨Nat.le_of_ble_eq_true rfl, Nat.le_of_ble_eq_true rfl⟩) (fun r X9 H1 L hE hPx hs hk hL => ?_) (fun E ce q9 H1 L hE hs hk hL hce hcv hcl => ?_)
  · have hS := S_app hS hs hk hL (fun q h => .inl h)
    have hPo : va_P G.1 vwCl (lgW G o S.2) H1 := P_o (n := 1) hP.2 Adr.one rfl hk (fun q h1 h2 z => by have h3 := z.1; have h4 := z.2; omega)
    refine lv_i2l (v := r.toInt64) hx hb dL_runScript_9 rfl ?_
    refine va_last (ws := lgW G o S.2 ++ (stW G (b + 12) (xR X9) ++ cbR G b X9)) hx hb hO.1 (P_app.mpr ⟨hPo, cb_fl hPx⟩) (wx_D hd) hS 0 4 rfl rfl (by unfold vp_in; decide) dL_runScript_10 (fun H2 locs2 hP2 hD2 hS2 => ?_)
    have hP3 := wx_st hP2
    refine lv_goto (tgt := 18) hx hb dL_runScript_11 (by decide) ?_
    refine lv_iconst (v := 0) hx hb dL_runScript_18 (by decide) ?_
    have hw0 : wr "java/lang/IllegalArgumentException" (h_X6_runScript S.1 w sc) S = (0, (X9, vp_updL S.2 (0 : Int32).toNatClampNeg r.toInt64)) := by rw [hE]; rfl
    exact vx_ret (W.iret hx hb hr (fun t ht hW => ⟨by rw [hw0], by rw [hw0, ht]; exact hP3, hS2.F ht⟩) hS2.2.2 dL_runScript_19)
  · have hS := S_app (fr := blk b (b + 170)) hS hs (fun q h _ => hk q h) (fun z hz => (hL z hz)) (fun q h => .inl h)
    have hPb : WX G b o S H1 := ⟨cb_out (fr := noA) hP.1 (fun q h _ => hk q h) (fun _ _ _ z => z), P_o (n := 1) (fr := noA) hP.2 Adr.one rfl (fun q h _ => hk q h) (fun _ _ _ z => z)⟩
    obtain rfl := hth E hE
    refine vx_catch (name := "java/lang/IllegalArgumentException") (E := "java/lang/IllegalArgumentException") hown [] ⟨0, 11, 14, 13⟩ [] htab (fun z hz => absurd hz List.not_mem_nil) (by decide) (by decide) (hts (.classLink RL 13 "java/lang/IllegalArgumentException") (by decide +kernel)) (hTh.w _ (List.mem_of_getElem? (i := 3) rfl)) hce hcv hcl ?_
    refine lv_astore (lv' := [(5, .ref q9), (0, .ref b), (1, .int w), (2, .long sc), (4, .ref o)]) hx hb dL_runScript_14 hl (by decide) rfl (fun ls hl => ?_)
    refine lv_iconst (v := 1) hx hb dL_runScript_16 (by decide) ?_
    have hw0 : wr "java/lang/IllegalArgumentException" (h_X6_runScript S.1 w sc) S = (1, S) := by rw [hE, wr]; rw [if_pos rfl]
    exact vx_ret (W.iret hx hb hr (fun t ht hW => ⟨by rw [hw0], by rw [hw0, ht]; exact hPb, hS.F ht⟩) hS.2.2 dL_runScript_17)

set_option maxHeartbeats 4000000 in
set_option maxRecDepth 100000 in
theorem c_L_simulate (l : Launch) (G : GG) (b o : Nat) (S : Wx) (sd : Int64) (w : Int32) (hst : l.stackTraces = false) (hd : o < b ∨ b + 170 ≤ o) : vx_Met l yL_simulate wsL_simulate ({ frames := 9, cells := 1, slots := 6, locals := 164 }) (PcN G (wfr b o) [.ref b, .long sd, .int w, .ref o] (WX G b o S)) (QM (some (.int (wr "java/lang/IllegalArgumentException" (h_X6_simulate S.1 sd w) S).1)) (WX G b o (wr "java/lang/IllegalArgumentException" (h_X6_simulate S.1 sd w) S).2) (wfr b o)) XNo 1 6 (wfr b o) := by
  have hth : ∀ E, h_X6_simulate S.1 sd w = .inl E → E = "java/lang/IllegalArgumentException" := fun E => th_simulate S.1 sd w E
  refine metW (cc := cL_simulate) (maxL := 6) (ret := (some .int)) (hh := [(0, 11, 14, 13)]) (by decide) rfl ?_
  intro p e s m below meth cd hx hb hr hml hown hts hlocks htab hP hO hTh hN
  have hS : va_S (wfr b o) s.heap s.heap [] := va_S.rf
  have hl := lv_entry ([.ref b, .long sd, .int w, .ref o]) (n := 6) (Nat.le_of_ble_eq_true rfl)
  rw [lg_entry_eq]
  generalize (lg_sl ([.ref b, .long sd, .int w, .ref o]) ++ List.replicate (6 - (lg_sl ([.ref b, .long sd, .int w, .ref o])).length) Slot.unset).toArray = ls at hl ⊢
  have hl : lv_has ls 6 [(0, .ref b), (1, .long sd), (3, .int w), (4, .ref o)] := hl
  refine lv_aload hx hb dL_simulate_0 (lv_at hl 3 rfl) ?_
  refine lv_iconst (v := 0) hx hb dL_simulate_2 (by decide) ?_
  refine lv_aload_n hx hb dL_simulate_3 rfl (lv_at hl 0 rfl) ?_
  refine lv_lload_n hx hb dL_simulate_4 rfl (lv_at hl 1 rfl) ?_
  refine lv_iload_n hx hb dL_simulate_5 rfl (lv_at hl 2 rfl) ?_
  refine cl_xi (xW (A := blk b (b + 170)) (As := [.long sd, .int w]) (rest := [.int 0, .ref o]) ⟨hx, hb, hml, hown, hts⟩ (c_X6_simulate l G b S.1 sd w hst) (cwV 2 hts gL_simulate_X6_simulate rfl rfl rfl (by decide +kernel) ⟨Nat.le_of_ble_eq_true rfl, Nat.le_of_ble_eq_true rfl⟩) (cb_recv hO hP.1) hP.1 hO (fun U hU hW => (hTh.warm hW hU).sub fun q h => .inl h) rfl hl.1 (Nat.le_of_ble_eq_true rfl) dL_simulate_6 ⟨Nat.le_of_ble_eq_true rfl, Nat.le_of_ble_eq_true rfl⟩) (fun r X9 H1 L hE hPx hs hk hL => ?_) (fun E ce q9 H1 L hE hs hk hL hce hcv hcl => ?_)
  · have hS := S_app hS hs hk hL (fun q h => .inl h)
    have hPo : va_P G.1 vwCl (lgW G o S.2) H1 := P_o (n := 1) hP.2 Adr.one rfl hk (fun q h1 h2 z => by have h3 := z.1; have h4 := z.2; omega)
    refine lv_i2l (v := r.toInt64) hx hb dL_simulate_9 rfl ?_
    refine va_last (ws := lgW G o S.2 ++ (stW G (b + 12) (xR X9) ++ cbR G b X9)) hx hb hO.1 (P_app.mpr ⟨hPo, cb_fl hPx⟩) (wx_D hd) hS 0 4 rfl rfl (by unfold vp_in; decide) dL_simulate_10 (fun H2 locs2 hP2 hD2 hS2 => ?_)
    have hP3 := wx_st hP2
    refine lv_goto (tgt := 18) hx hb dL_simulate_11 (by decide) ?_
    refine lv_iconst (v := 0) hx hb dL_simulate_18 (by decide) ?_
    have hw0 : wr "java/lang/IllegalArgumentException" (h_X6_simulate S.1 sd w) S = (0, (X9, vp_updL S.2 (0 : Int32).toNatClampNeg r.toInt64)) := by rw [hE]; rfl
    exact vx_ret (W.iret hx hb hr (fun t ht hW => ⟨by rw [hw0], by rw [hw0, ht]; exact hP3, hS2.F ht⟩) hS2.2.2 dL_simulate_19)
  · have hS := S_app (fr := blk b (b + 170)) hS hs (fun q h _ => hk q h) (fun z hz => (hL z hz)) (fun q h => .inl h)
    have hPb : WX G b o S H1 := ⟨cb_out (fr := noA) hP.1 (fun q h _ => hk q h) (fun _ _ _ z => z), P_o (n := 1) (fr := noA) hP.2 Adr.one rfl (fun q h _ => hk q h) (fun _ _ _ z => z)⟩
    obtain rfl := hth E hE
    refine vx_catch (name := "java/lang/IllegalArgumentException") (E := "java/lang/IllegalArgumentException") hown [] ⟨0, 11, 14, 13⟩ [] htab (fun z hz => absurd hz List.not_mem_nil) (by decide) (by decide) (hts (.classLink RL 13 "java/lang/IllegalArgumentException") (by decide +kernel)) (hTh.w _ (List.mem_of_getElem? (i := 3) rfl)) hce hcv hcl ?_
    refine lv_astore (lv' := [(5, .ref q9), (0, .ref b), (1, .long sd), (3, .int w), (4, .ref o)]) hx hb dL_simulate_14 hl (by decide) rfl (fun ls hl => ?_)
    refine lv_iconst (v := 1) hx hb dL_simulate_16 (by decide) ?_
    have hw0 : wr "java/lang/IllegalArgumentException" (h_X6_simulate S.1 sd w) S = (1, S) := by rw [hE, wr]; rw [if_pos rfl]
    exact vx_ret (W.iret hx hb hr (fun t ht hW => ⟨by rw [hw0], by rw [hw0, ht]; exact hPb, hS.F ht⟩) hS.2.2 dL_simulate_17)

set_option maxHeartbeats 4000000 in
set_option maxRecDepth 100000 in
theorem c_L_save (l : Launch) (G : GG) (b o : Nat) (S : Wx) (x : Int32) (hst : l.stackTraces = false) (hd : o < b ∨ b + 170 ≤ o) : vx_Met l yL_save wsL_save ({ frames := 10, cells := 1, slots := 6, locals := 161 }) (PcN G (wfr b o) [.ref b, .int x, .ref o] (WX G b o S)) (QM (some (.int (wr "java/lang/IndexOutOfBoundsException" (h_X6_save S.1 x) S).1)) (WX G b o (wr "java/lang/IndexOutOfBoundsException" (h_X6_save S.1 x) S).2) (wfr b o)) XNo 1 6 (wfr b o) := by
  have hth : ∀ E, h_X6_save S.1 x = .inl E → E = "java/lang/IndexOutOfBoundsException" := fun E => th_save S.1 x E
  refine metW (cc := cL_save) (maxL := 4) (ret := (some .int)) (hh := [(0, 9, 12, 28)]) (by decide) rfl ?_
  intro p e s m below meth cd hx hb hr hml hown hts hlocks htab hP hO hTh hN
  have hS : va_S (wfr b o) s.heap s.heap [] := va_S.rf
  have hl := lv_entry ([.ref b, .int x, .ref o]) (n := 4) (Nat.le_of_ble_eq_true rfl)
  rw [lg_entry_eq]
  generalize (lg_sl ([.ref b, .int x, .ref o]) ++ List.replicate (4 - (lg_sl ([.ref b, .int x, .ref o])).length) Slot.unset).toArray = ls at hl ⊢
  have hl : lv_has ls 4 [(0, .ref b), (1, .int x), (2, .ref o)] := hl
  refine lv_aload_n hx hb dL_save_0 rfl (lv_at hl 2 rfl) ?_
  refine lv_iconst (v := 0) hx hb dL_save_1 (by decide) ?_
  refine lv_aload_n hx hb dL_save_2 rfl (lv_at hl 0 rfl) ?_
  refine lv_iload_n hx hb dL_save_3 rfl (lv_at hl 1 rfl) ?_
  refine cl_xi (xW (A := blk b (b + 170)) (As := [.int x]) (rest := [.int 0, .ref o]) ⟨hx, hb, hml, hown, hts⟩ (c_X6_save l G b S.1 x hst) (cwV 1 hts gL_save_X6_save rfl rfl rfl (by decide +kernel) ⟨Nat.le_of_ble_eq_true rfl, Nat.le_of_ble_eq_true rfl⟩) (cb_recv hO hP.1) hP.1 hO (fun U hU hW => (hTh.warm hW hU).sub fun q h => .inl h) rfl hl.1 (Nat.le_of_ble_eq_true rfl) dL_save_4 ⟨Nat.le_of_ble_eq_true rfl, Nat.le_of_ble_eq_true rfl⟩) (fun r X9 H1 L hE hPx hs hk hL => ?_) (fun E ce q9 H1 L hE hs hk hL hce hcv hcl => ?_)
  · have hS := S_app hS hs hk hL (fun q h => .inl h)
    have hPo : va_P G.1 vwCl (lgW G o S.2) H1 := P_o (n := 1) hP.2 Adr.one rfl hk (fun q h1 h2 z => by have h3 := z.1; have h4 := z.2; omega)
    refine lv_i2l (v := r.toInt64) hx hb dL_save_7 rfl ?_
    refine va_last (ws := lgW G o S.2 ++ (stW G (b + 12) (xR X9) ++ cbR G b X9)) hx hb hO.1 (P_app.mpr ⟨hPo, cb_fl hPx⟩) (wx_D hd) hS 0 4 rfl rfl (by unfold vp_in; decide) dL_save_8 (fun H2 locs2 hP2 hD2 hS2 => ?_)
    have hP3 := wx_st hP2
    refine lv_goto (tgt := 15) hx hb dL_save_9 (by decide) ?_
    refine lv_iconst (v := 0) hx hb dL_save_15 (by decide) ?_
    have hw0 : wr "java/lang/IndexOutOfBoundsException" (h_X6_save S.1 x) S = (0, (X9, vp_updL S.2 (0 : Int32).toNatClampNeg r.toInt64)) := by rw [hE]; rfl
    exact vx_ret (W.iret hx hb hr (fun t ht hW => ⟨by rw [hw0], by rw [hw0, ht]; exact hP3, hS2.F ht⟩) hS2.2.2 dL_save_16)
  · have hS := S_app (fr := blk b (b + 170)) hS hs (fun q h _ => hk q h) (fun z hz => (hL z hz)) (fun q h => .inl h)
    have hPb : WX G b o S H1 := ⟨cb_out (fr := noA) hP.1 (fun q h _ => hk q h) (fun _ _ _ z => z), P_o (n := 1) (fr := noA) hP.2 Adr.one rfl (fun q h _ => hk q h) (fun _ _ _ z => z)⟩
    obtain rfl := hth E hE
    refine vx_catch (name := "java/lang/IndexOutOfBoundsException") (E := "java/lang/IndexOutOfBoundsException") hown [] ⟨0, 9, 12, 28⟩ [] htab (fun z hz => absurd hz List.not_mem_nil) (by decide) (by decide) (hts (.classLink RL 28 "java/lang/IndexOutOfBoundsException") (by decide +kernel)) (hTh.w _ (List.mem_of_getElem? (i := 5) rfl)) hce hcv hcl ?_
    refine lv_astore_n (lv' := [(3, .ref q9), (0, .ref b), (1, .int x), (2, .ref o)]) hx hb dL_save_12 rfl hl (by decide) rfl (fun ls hl => ?_)
    refine lv_iconst (v := 1) hx hb dL_save_13 (by decide) ?_
    have hw0 : wr "java/lang/IndexOutOfBoundsException" (h_X6_save S.1 x) S = (1, S) := by rw [hE, wr]; rw [if_pos rfl]
    exact vx_ret (W.iret hx hb hr (fun t ht hW => ⟨by rw [hw0], by rw [hw0, ht]; exact hPb, hS.F ht⟩) hS.2.2 dL_save_14)

set_option maxHeartbeats 4000000 in
set_option maxRecDepth 100000 in
theorem c_L_restore (l : Launch) (G : GG) (b o : Nat) (S : Wx) (x : Int32) (hst : l.stackTraces = false) (hd : o < b ∨ b + 170 ≤ o) : vx_Met l yL_restore wsL_restore ({ frames := 10, cells := 1, slots := 6, locals := 161 }) (PcN G (wfr b o) [.ref b, .int x, .ref o] (WX G b o S)) (QM (some (.int (wr "java/lang/IndexOutOfBoundsException" (h_X6_restore S.1 x) S).1)) (WX G b o (wr "java/lang/IndexOutOfBoundsException" (h_X6_restore S.1 x) S).2) (wfr b o)) XNo 1 6 (wfr b o) := by
  have hth : ∀ E, h_X6_restore S.1 x = .inl E → E = "java/lang/IndexOutOfBoundsException" ∨ E = "java/lang/IllegalStateException" := fun E => th_restore S.1 x E
  refine metW (cc := cL_restore) (maxL := 4) (ret := (some .int)) (hh := [(0, 9, 12, 28), (0, 9, 15, 15)]) (by decide) rfl ?_
  intro p e s m below meth cd hx hb hr hml hown hts hlocks htab hP hO hTh hN
  have hS : va_S (wfr b o) s.heap s.heap [] := va_S.rf
  have hl := lv_entry ([.ref b, .int x, .ref o]) (n := 4) (Nat.le_of_ble_eq_true rfl)
  rw [lg_entry_eq]
  generalize (lg_sl ([.ref b, .int x, .ref o]) ++ List.replicate (4 - (lg_sl ([.ref b, .int x, .ref o])).length) Slot.unset).toArray = ls at hl ⊢
  have hl : lv_has ls 4 [(0, .ref b), (1, .int x), (2, .ref o)] := hl
  refine lv_aload_n hx hb dL_restore_0 rfl (lv_at hl 2 rfl) ?_
  refine lv_iconst (v := 0) hx hb dL_restore_1 (by decide) ?_
  refine lv_aload_n hx hb dL_restore_2 rfl (lv_at hl 0 rfl) ?_
  refine lv_iload_n hx hb dL_restore_3 rfl (lv_at hl 1 rfl) ?_
  refine cl_xi (xW (A := blk b (b + 170)) (As := [.int x]) (rest := [.int 0, .ref o]) ⟨hx, hb, hml, hown, hts⟩ (c_X6_restore l G b S.1 x hst) (cwV 1 hts gL_restore_X6_restore rfl rfl rfl (by decide +kernel) ⟨Nat.le_of_ble_eq_true rfl, Nat.le_of_ble_eq_true rfl⟩) (cb_recv hO hP.1) hP.1 hO (fun U hU hW => (hTh.warm hW hU).sub fun q h => .inl h) rfl hl.1 (Nat.le_of_ble_eq_true rfl) dL_restore_4 ⟨Nat.le_of_ble_eq_true rfl, Nat.le_of_ble_eq_true rfl⟩) (fun r X9 H1 L hE hPx hs hk hL => ?_) (fun E ce q9 H1 L hE hs hk hL hce hcv hcl => ?_)
  · have hS := S_app hS hs hk hL (fun q h => .inl h)
    have hPo : va_P G.1 vwCl (lgW G o S.2) H1 := P_o (n := 1) hP.2 Adr.one rfl hk (fun q h1 h2 z => by have h3 := z.1; have h4 := z.2; omega)
    refine lv_i2l (v := r.toInt64) hx hb dL_restore_7 rfl ?_
    refine va_last (ws := lgW G o S.2 ++ (stW G (b + 12) (xR X9) ++ cbR G b X9)) hx hb hO.1 (P_app.mpr ⟨hPo, cb_fl hPx⟩) (wx_D hd) hS 0 4 rfl rfl (by unfold vp_in; decide) dL_restore_8 (fun H2 locs2 hP2 hD2 hS2 => ?_)
    have hP3 := wx_st hP2
    refine lv_goto (tgt := 18) hx hb dL_restore_9 (by decide) ?_
    refine lv_iconst (v := 0) hx hb dL_restore_18 (by decide) ?_
    have hw0 : wr "java/lang/IndexOutOfBoundsException" (h_X6_restore S.1 x) S = (0, (X9, vp_updL S.2 (0 : Int32).toNatClampNeg r.toInt64)) := by rw [hE]; rfl
    exact vx_ret (W.iret hx hb hr (fun t ht hW => ⟨by rw [hw0], by rw [hw0, ht]; exact hP3, hS2.F ht⟩) hS2.2.2 dL_restore_19)
  · have hS := S_app (fr := blk b (b + 170)) hS hs (fun q h _ => hk q h) (fun z hz => (hL z hz)) (fun q h => .inl h)
    have hPb : WX G b o S H1 := ⟨cb_out (fr := noA) hP.1 (fun q h _ => hk q h) (fun _ _ _ z => z), P_o (n := 1) (fr := noA) hP.2 Adr.one rfl (fun q h _ => hk q h) (fun _ _ _ z => z)⟩
    rcases hth E hE with rfl | rfl
    · refine vx_catch (name := "java/lang/IndexOutOfBoundsException") (E := "java/lang/IndexOutOfBoundsException") hown [] ⟨0, 9, 12, 28⟩ [⟨0, 9, 15, 15⟩] htab (fun z hz => absurd hz List.not_mem_nil) (by decide) (by decide) (hts (.classLink RL 28 "java/lang/IndexOutOfBoundsException") (by decide +kernel)) (hTh.w _ (List.mem_of_getElem? (i := 5) rfl)) hce hcv hcl ?_
      refine lv_astore_n (lv' := [(3, .ref q9), (0, .ref b), (1, .int x), (2, .ref o)]) hx hb dL_restore_12 rfl hl (by decide) rfl (fun ls hl => ?_)
      refine lv_iconst (v := 1) hx hb dL_restore_13 (by decide) ?_
      have hw0 : wr "java/lang/IndexOutOfBoundsException" (h_X6_restore S.1 x) S = (1, S) := by rw [hE, wr]; rw [if_pos rfl]
      exact vx_ret (W.iret hx hb hr (fun t ht hW => ⟨by rw [hw0], by rw [hw0, ht]; exact hPb, hS.F ht⟩) hS.2.2 dL_restore_14)
    · refine vx_catch (name := "java/lang/IllegalStateException") (E := "java/lang/IllegalStateException") hown [⟨0, 9, 12, 28⟩] ⟨0, 9, 15, 15⟩ [] htab (fun z hz => by rw [List.mem_singleton.mp hz]; exact .inr ⟨by decide, "java/lang/IndexOutOfBoundsException", hts (.classLink RL 28 "java/lang/IndexOutOfBoundsException") (by decide +kernel), (hN _ (List.mem_of_getElem? (i := 2) rfl))⟩) (by decide) (by decide) (hts (.classLink RL 15 "java/lang/IllegalStateException") (by decide +kernel)) (hTh.w _ (List.mem_of_getElem? (i := 4) rfl)) hce hcv hcl ?_
      refine lv_astore_n (lv' := [(3, .ref q9), (0, .ref b), (1, .int x), (2, .ref o)]) hx hb dL_restore_15 rfl hl (by decide) rfl (fun ls hl => ?_)
      refine lv_iconst (v := 2) hx hb dL_restore_16 (by decide) ?_
      have hw0 : wr "java/lang/IndexOutOfBoundsException" (h_X6_restore S.1 x) S = (2, S) := by rw [hE, wr]; rw [if_neg (by decide)]
      exact vx_ret (W.iret hx hb hr (fun t ht hW => ⟨by rw [hw0], by rw [hw0, ht]; exact hPb, hS.F ht⟩) hS.2.2 dL_restore_17)
