set_option maxHeartbeats 16000000 in
set_option maxRecDepth 100000 in
theorem c_L_comes (l : Launch) (G : GG) (a b : Nat) (hd : a + 170 ≤ b) (X Y : Cx) (M : Mo) (n : Nat) (hst : l.stackTraces = false) (RX : RelX X M) (RY : RelX Y M) (CX : Ch X) (CY : Ch Y) (hn : n < 2 ^ 31) : Met l yL_comes wsL_comes ({ frames := 13, cells := 45, slots := 270, locals := 236 }) (PcN G (fun q => blk a (a + 170) q ∨ blk b (b + 170) q) [.ref a, .ref b, .int (nI n)] (fun H => Cb G a X H ∧ Cb G b Y H)) (QM (some (.int 1)) (fun H => ∃ X1 Y1 M1, Cb G a X1 H ∧ Cb G b Y1 H ∧ RelX X1 M1 ∧ RelX Y1 M1 ∧ Ch X1 ∧ Ch Y1) (fun q => blk a (a + 170) q ∨ blk b (b + 170) q)) 45 270 (fun q => blk a (a + 170) q ∨ blk b (b + 170) q) := by
  refine metN (cc := cL_comes) (maxL := 11) (ret := (some .boolean)) (by decide) rfl ?_
  intro p e s m below meth cd hx hb hr hml hown hts hlocks hP hO hTh hN
  obtain ⟨hP, hQ⟩ := hP
  obtain ⟨j, hj, ej⟩ : ∃ j, (2 ≤ j ∧ j ≤ 8) ∧ 2 + n % 7 = j := ⟨_, by omega, rfl⟩
  obtain ⟨T5, eT5⟩ := rd_fits0 RX hj
  have hg40 := RX.nw.2.ri.m.2
  have hnf := nf_le (mN M) hj.1
  have hS : va_S (fun q => blk a (a + 170) q ∨ blk b (b + 170) q) s.heap s.heap [] := va_S.rf
  have hl := lv_entry ([.ref a, .ref b, .int (nI n)]) (n := 11) (Nat.le_of_ble_eq_true rfl)
  rw [lg_entry_eq]
  generalize (lg_sl ([.ref a, .ref b, .int (nI n)]) ++ List.replicate (11 - (lg_sl ([.ref a, .ref b, .int (nI n)])).length) Slot.unset).toArray = ls at hl ⊢
  have hl : lv_has ls 11 [(0, .ref a), (1, .ref b), (2, .int (nI n))] := hl
  have cut352 : ∀ (X4 : Cx) (Y4 : Cx) (M4 : Mo), RelX X4 M4 → RelX Y4 M4 → Ch X4 → Ch Y4 → xN X4 = xN X → ∀ (H : Heap) (locs : List Loc) (ls : Array Slot), Cb G a X4 H → Cb G b Y4 H → va_S (fun q => blk a (a + 170) q ∨ blk b (b + 170) q) s.heap H locs → lv_has ls 11 [(0, .ref a), (1, .ref b), (6, .int (nI (sm (isC (mN M) (-1)) 80))), (8, .int 1)] → W p l e (headSpec wsL_comes ({ frames := 13, cells := 45, slots := 270, locals := 236 } : Room)).room s m ([.ref a, .ref b, .int (nI n)] : List Value).toArray below meth cd H locs 40 240 (MQ below (QM (some (.int 1)) (fun H => ∃ X1 Y1 M1, Cb G a X1 H ∧ Cb G b Y1 H ∧ RelX X1 M1 ∧ RelX Y1 M1 ∧ Ch X1 ∧ Ch Y1) (fun q => blk a (a + 170) q ∨ blk b (b + 170) q)) ([.ref a, .ref b, .int (nI n)] : List Value).toArray s 45 270 (fun q => blk a (a + 170) q ∨ blk b (b + 170) q)) (F0 m 352 ls []) := by
    intro X4 Y4 M4 r4x r4y c4x c4y e4 H locs ls hP hQ hS hl
    refine lv_iload hx hb dL_comes_352 (lv_at hl 3 rfl) ?_
    refine lv_if_eq (tgt := 375) hx hb dL_comes_354 (by decide) (fun c1 => absurd c1 (by decide)) (fun _ => ?_)
    refine lv_aload_n hx hb dL_comes_357 rfl (lv_at hl 0 rfl) ?_
    refine lv_iconst (v := 2) hx hb dL_comes_358 (by decide) ?_
    refine lv_bipush (v := 9) hx hb dL_comes_359 (by decide) ?_
    refine lv_iconst (v := 0) hx hb dL_comes_361 (by decide) ?_
    refine lv_iconst (v := 0) hx hb dL_comes_362 (by decide) ?_
    refine cl_o2 (rSP (A := blk a (a + 170)) (As := [.ref a, .int 2, .int 9, .int 0, .int 0]) (rest := []) ⟨hx, hb, hml, hown, hts⟩ (c_call_2 l G a X4 9 0 0 (nI (sm (isC (mN M) (-1)) 80)) X4 hst ((rd_ab9 r4x).trans (by rw [free_N RX r4x e4]))) (va_cwS 5 hts gL_comes_L_call rfl rfl rfl (by decide +kernel) ⟨(Nat.le_of_ble_eq_true rfl), (Nat.le_of_ble_eq_true rfl)⟩) hP hO (thr_at hTh hS (fun q h => Or.inl h)) hN rfl hl.1 (Nat.le_of_ble_eq_true rfl) dL_comes_363 ⟨(Nat.le_of_ble_eq_true rfl), (Nat.le_of_ble_eq_true rfl)⟩) hS (fun q h => Or.inl h) hQ (Or.inl hd) (fun H locs hP hQ hS => ?_)
    refine lv_iload hx hb dL_comes_366 (lv_at hl 2 rfl) ?_
    refine lv_icmp_ne (tgt := 375) hx hb dL_comes_368 (by decide) (fun c2 => absurd rfl c2) (fun _ => ?_)
    refine lv_iconst (v := 1) hx hb dL_comes_371 (by decide) ?_
    refine lv_goto (tgt := 376) hx hb dL_comes_372 (by decide) ?_
    exact W.widen (k := 45) (n := 270) (Nat.le_of_ble_eq_true rfl) (Nat.le_of_ble_eq_true rfl) (W.zret (ty := .boolean) hx hb hr rfl (fun t ht hW => ⟨rfl, by rw [ht]; exact ⟨_, _, _, hP, hQ, r4x, r4y, c4x, c4y⟩, hS.F ht⟩) hS.2.2 dL_comes_376)
  have cut209 : ∀ (X2 : Cx) (Y2 : Cx) (M2 : Mo), RelX X2 M2 → RelX Y2 M2 → Ch X2 → Ch Y2 → xN X2 = xN X → ∀ (H : Heap) (locs : List Loc) (ls : Array Slot), Cb G a X2 H → Cb G b Y2 H → va_S (fun q => blk a (a + 170) q ∨ blk b (b + 170) q) s.heap H locs → lv_has ls 11 [(0, .ref a), (1, .ref b), (2, .int (nI n)), (3, .int (nI j)), (6, .int (nI (sm (isC (mN M) (-1)) 80))), (8, .int 1)] → W p l e (headSpec wsL_comes ({ frames := 13, cells := 45, slots := 270, locals := 236 } : Room)).room s m ([.ref a, .ref b, .int (nI n)] : List Value).toArray below meth cd H locs 15 90 (MQ below (QM (some (.int 1)) (fun H => ∃ X1 Y1 M1, Cb G a X1 H ∧ Cb G b Y1 H ∧ RelX X1 M1 ∧ RelX Y1 M1 ∧ Ch X1 ∧ Ch Y1) (fun q => blk a (a + 170) q ∨ blk b (b + 170) q)) ([.ref a, .ref b, .int (nI n)] : List Value).toArray s 45 270 (fun q => blk a (a + 170) q ∨ blk b (b + 170) q)) (F0 m 209 ls []) := by
    intro X2 Y2 M2 r2x r2y c2x c2y e2 H locs ls hP hQ hS hl
    obtain ⟨T6, eT6⟩ := rd_when (X := X2) hj
    refine lv_aload_n hx hb dL_comes_209 rfl (lv_at hl 0 rfl) ?_
    refine lv_bipush (v := 17) hx hb dL_comes_210 (by decide) ?_
    refine lv_iload_n hx hb dL_comes_212 rfl (lv_at hl 3 rfl) ?_
    refine lv_iconst (v := 0) hx hb dL_comes_213 (by decide) ?_
    refine lv_iconst (v := 0) hx hb dL_comes_214 (by decide) ?_
    refine cl_o2 (rSP (A := blk a (a + 170)) (As := [.ref a, .int 17, .int (nI j), .int 0, .int 0]) (rest := []) ⟨hx, hb, hml, hown, hts⟩ (c_call_17 l G a X2 (nI j) 0 0 (gw (xN X2) j) (yR X2 T6) hst eT6) (va_cwS 5 hts gL_comes_L_call rfl rfl rfl (by decide +kernel) ⟨(Nat.le_of_ble_eq_true rfl), (Nat.le_of_ble_eq_true rfl)⟩) hP hO (thr_at hTh hS (fun q h => Or.inl h)) hN rfl hl.1 (Nat.le_of_ble_eq_true rfl) dL_comes_215 ⟨(Nat.le_of_ble_eq_true rfl), (Nat.le_of_ble_eq_true rfl)⟩) hS (fun q h => Or.inl h) hQ (Or.inl hd) (fun H locs hP hQ hS => ?_)
    refine lv_istore (lv' := [(9, .int (gw (xN X2) j)), (0, .ref a), (1, .ref b), (2, .int (nI n)), (3, .int (nI j)), (6, .int (nI (sm (isC (mN M) (-1)) 80))), (8, .int 1)]) hx hb dL_comes_218 hl (by decide) rfl (fun ls hl => ?_)
    refine lv_iload hx hb dL_comes_220 (lv_at hl 0 rfl) ?_
    refine lv_iconst (v := -1) hx hb dL_comes_222 (by decide) ?_
    refine lv_icmp_ne (tgt := 231) hx hb dL_comes_223 (by decide) (fun c3 => ?_) (fun c3 => ?_)
    · obtain ⟨i, hi, ei, h0, hm⟩ := gw_yes c3
      rw [ei] at hl
      refine lv_iload hx hb dL_comes_231 (lv_at hl 0 rfl) ?_
      refine lv_istore (lv' := [(10, .int (nI i)), (9, .int (nI i)), (0, .ref a), (1, .ref b), (2, .int (nI n)), (3, .int (nI j)), (6, .int (nI (sm (isC (mN M) (-1)) 80))), (8, .int 1)]) hx hb dL_comes_233 hl (by decide) rfl (fun ls hl => ?_)
      refine lv_iload hx hb dL_comes_235 (lv_at hl 7 rfl) ?_
      refine lv_if_eq (tgt := 295) hx hb dL_comes_237 (by decide) (fun c4 => absurd c4 (by decide)) (fun _ => ?_)
      refine lv_aload_n hx hb dL_comes_240 rfl (lv_at hl 2 rfl) ?_
      refine lv_aload_n hx hb dL_comes_241 rfl (lv_at hl 3 rfl) ?_
      refine lv_iload hx hb dL_comes_242 (lv_at hl 0 rfl) ?_
      refine cl_ci (rSP (A := (fun q => blk a (a + 170) q ∨ blk b (b + 170) q)) (As := [.ref a, .ref b, .int (nI i)]) (rest := []) ⟨hx, hb, hml, hown, hts⟩ (c_L_waits l G a b hd (yR X2 T6) Y2 M2 i hst (r2x.yR T6) r2y (c2x.yR T6) c2y (by omega)) (va_cwS 3 hts gL_comes_L_waits rfl rfl rfl (by decide +kernel) ⟨(Nat.le_of_ble_eq_true rfl), (Nat.le_of_ble_eq_true rfl)⟩) ⟨hP, hQ⟩ hO (thr_at hTh hS (fun q h => h)) hN rfl hl.1 (Nat.le_of_ble_eq_true rfl) dL_comes_244 ⟨(Nat.le_of_ble_eq_true rfl), (Nat.le_of_ble_eq_true rfl)⟩) hS (fun q h => h) (fun H locs hP9 hz hk hS => ?_)
      obtain ⟨hP, hQ⟩ := hP9
      refine lv_if_eq (tgt := 295) hx hb dL_comes_247 (by decide) (fun c5 => absurd c5 (by decide)) (fun _ => ?_)
      refine lv_aload_n hx hb dL_comes_250 rfl (lv_at hl 2 rfl) ?_
      refine lv_bipush (v := 14) hx hb dL_comes_251 (by decide) ?_
      refine lv_iload_n hx hb dL_comes_253 rfl (lv_at hl 5 rfl) ?_
      refine lv_iconst (v := 0) hx hb dL_comes_254 (by decide) ?_
      refine lv_iconst (v := 0) hx hb dL_comes_255 (by decide) ?_
      refine cl_o2 (rSP (A := blk a (a + 170)) (As := [.ref a, .int 14, .int (nI j), .int 0, .int 0]) (rest := []) ⟨hx, hb, hml, hown, hts⟩ (c_call_14 l G a (wt (yR X2 T6) i) (nI j) 0 0 (nI (wy (mN (wtM M2 i)) j)) (wt (yR X2 T6) i) hst (rd_why (wt_R (k := i) (r2x.yR T6) (by omega)) hj)) (va_cwS 5 hts gL_comes_L_call rfl rfl rfl (by decide +kernel) ⟨(Nat.le_of_ble_eq_true rfl), (Nat.le_of_ble_eq_true rfl)⟩) hP hO (thr_at hTh hS (fun q h => Or.inl h)) hN rfl hl.1 (Nat.le_of_ble_eq_true rfl) dL_comes_256 ⟨(Nat.le_of_ble_eq_true rfl), (Nat.le_of_ble_eq_true rfl)⟩) hS (fun q h => Or.inl h) hQ (Or.inl hd) (fun H locs hP hQ hS => ?_)
      have hwl := wy_le (mN (wtM M2 i)) j
      have hw : wy (mN (wtM M2 i)) j = 0 := ((why_wt (r2x.yR T6) (k := i) (by omega) hj).mpr h0)
      refine lv_if_ne (tgt := 266) hx hb dL_comes_259 (by decide) (fun c6 => absurd (congrArg nI (show (wy (mN (wtM M2 i)) j : Nat) = 0 by omega)) c6) (fun _ => ?_)
      refine lv_iconst (v := 1) hx hb dL_comes_262 (by decide) ?_
      refine lv_goto (tgt := 267) hx hb dL_comes_263 (by decide) ?_
      refine lv_iload hx hb dL_comes_267 (lv_at hl 1 rfl) ?_
      refine lv_iconst (v := -1) hx hb dL_comes_269 (by decide) ?_
      refine lv_icmp_eq (tgt := 277) hx hb dL_comes_270 (by decide) (fun c7 => absurd c7 (nI_m1 (a := i) (by omega))) (fun _ => ?_)
      refine lv_iconst (v := 1) hx hb dL_comes_273 (by decide) ?_
      refine lv_goto (tgt := 278) hx hb dL_comes_274 (by decide) ?_
      refine lv_icmp_ne (tgt := 295) hx hb dL_comes_278 (by decide) (fun c8 => absurd (by decide) c8) (fun _ => ?_)
      refine lv_aload_n hx hb dL_comes_281 rfl (lv_at hl 2 rfl) ?_
      refine lv_aload_n hx hb dL_comes_282 rfl (lv_at hl 3 rfl) ?_
      refine lv_iload hx hb dL_comes_283 (lv_at hl 0 rfl) ?_
      refine cl_ci (rSP (A := (fun q => blk a (a + 170) q ∨ blk b (b + 170) q)) (As := [.ref a, .ref b, .int (nI i)]) (rest := []) ⟨hx, hb, hml, hown, hts⟩ (c_L_undoes l G a b hd (wt (yR X2 T6) i) (wt Y2 i) (wtM M2 i) i hst (wt_R (k := i) (r2x.yR T6) (by omega)) (wt_R (k := i) r2y (by omega)) (by omega) (wt_K (k := i) (r2x.yR T6).hk) (wt_K (k := i) r2y.hk)) (va_cwS 3 hts gL_comes_L_undoes rfl rfl rfl (by decide +kernel) ⟨(Nat.le_of_ble_eq_true rfl), (Nat.le_of_ble_eq_true rfl)⟩) ⟨hP, hQ⟩ hO (thr_at hTh hS (fun q h => h)) hN rfl hl.1 (Nat.le_of_ble_eq_true rfl) dL_comes_285 ⟨(Nat.le_of_ble_eq_true rfl), (Nat.le_of_ble_eq_true rfl)⟩) hS (fun q h => h) (fun H locs hP9 hz hk hS => ?_)
      obtain ⟨hP, hQ⟩ := hP9
      obtain ⟨p1, p2, p3⟩ := ww (r2x.yR T6) (c2x.yR T6) (k := i) (by omega)
      obtain ⟨q1, q2, q3⟩ := ww r2y c2y (k := i) (by omega)
      refine lv_if_eq (tgt := 295) hx hb dL_comes_288 (by decide) (fun c9 => absurd c9 (by decide)) (fun _ => ?_)
      refine lv_iconst (v := 1) hx hb dL_comes_291 (by decide) ?_
      refine lv_goto (tgt := 296) hx hb dL_comes_292 (by decide) ?_
      refine lv_istore (lv' := [(8, .int 1), (10, .int (nI i)), (9, .int (nI i)), (0, .ref a), (1, .ref b), (2, .int (nI n)), (3, .int (nI j)), (6, .int (nI (sm (isC (mN M) (-1)) 80)))]) hx hb dL_comes_296 hl (by decide) rfl (fun ls hl => ?_)
      refine lv_iload hx hb dL_comes_298 (lv_at hl 1 rfl) ?_
      refine lv_iconst (v := 1) hx hb dL_comes_300 (by decide) ?_
      refine lv_icmp_le (tgt := 352) hx hb dL_comes_301 (by decide) (fun c10 => ?_) (fun c10 => ?_)
      · have c10f : i ≤ 1 := (nI_leI (a := i) (b := 1) (by omega) (by omega)).mp c10
        refine W.widen (k := 40) (n := 240) (Nat.le_of_ble_eq_true rfl) (Nat.le_of_ble_eq_true rfl) ?_
        exact cut352 (ut (wt (yR X2 T6) i) i) (ut (wt Y2 i) i) (utM (wtM M2 i) i) p1 q1 p2 q2 (p3.trans e2) _ _ _ hP hQ hS (lv_sub hl [3, 4, 7, 0] rfl)
      · have c10f : ¬ i ≤ 1 := fun z => c10 ((nI_leI (a := i) (b := 1) (by omega) (by omega)).mpr z)
        refine lv_iload hx hb dL_comes_304 (lv_at hl 0 rfl) ?_
        refine lv_if_eq (tgt := 352) hx hb dL_comes_306 (by decide) (fun c11 => absurd c11 (by decide)) (fun _ => ?_)
        refine lv_aload_n hx hb dL_comes_309 rfl (lv_at hl 3 rfl) ?_
        refine lv_aload_n hx hb dL_comes_310 rfl (lv_at hl 4 rfl) ?_
        refine lv_iload hx hb dL_comes_311 (lv_at hl 1 rfl) ?_
        refine lv_iconst (v := 1) hx hb dL_comes_313 (by decide) ?_
        refine isub_n (a := i) (b := 1) hx hb (by omega) dL_comes_314 ?_
        refine cl_ci (rSP (A := (fun q => blk a (a + 170) q ∨ blk b (b + 170) q)) (As := [.ref a, .ref b, .int (nI (i - 1))]) (rest := []) ⟨hx, hb, hml, hown, hts⟩ (c_L_waits l G a b hd (ut (wt (yR X2 T6) i) i) (ut (wt Y2 i) i) (utM (wtM M2 i) i) (i - 1) hst p1 q1 p2 q2 (by omega)) (va_cwS 3 hts gL_comes_L_waits rfl rfl rfl (by decide +kernel) ⟨(Nat.le_of_ble_eq_true rfl), (Nat.le_of_ble_eq_true rfl)⟩) ⟨hP, hQ⟩ hO (thr_at hTh hS (fun q h => h)) hN rfl hl.1 (Nat.le_of_ble_eq_true rfl) dL_comes_315 ⟨(Nat.le_of_ble_eq_true rfl), (Nat.le_of_ble_eq_true rfl)⟩) hS (fun q h => h) (fun H locs hP9 hz hk hS => ?_)
        obtain ⟨hP, hQ⟩ := hP9
        refine lv_if_eq (tgt := 349) hx hb dL_comes_318 (by decide) (fun c12 => absurd c12 (by decide)) (fun _ => ?_)
        refine lv_aload_n hx hb dL_comes_321 rfl (lv_at hl 3 rfl) ?_
        refine lv_bipush (v := 14) hx hb dL_comes_322 (by decide) ?_
        refine lv_iload_n hx hb dL_comes_324 rfl (lv_at hl 6 rfl) ?_
        refine lv_iconst (v := 0) hx hb dL_comes_325 (by decide) ?_
        refine lv_iconst (v := 0) hx hb dL_comes_326 (by decide) ?_
        refine cl_o2 (rSP (A := blk a (a + 170)) (As := [.ref a, .int 14, .int (nI j), .int 0, .int 0]) (rest := []) ⟨hx, hb, hml, hown, hts⟩ (c_call_14 l G a (wt (ut (wt (yR X2 T6) i) i) (i - 1)) (nI j) 0 0 (nI (wy (mN (wtM (utM (wtM M2 i) i) (i - 1))) j)) (wt (ut (wt (yR X2 T6) i) i) (i - 1)) hst (rd_why (wt_R (k := i - 1) p1 (by omega)) hj)) (va_cwS 5 hts gL_comes_L_call rfl rfl rfl (by decide +kernel) ⟨(Nat.le_of_ble_eq_true rfl), (Nat.le_of_ble_eq_true rfl)⟩) hP hO (thr_at hTh hS (fun q h => Or.inl h)) hN rfl hl.1 (Nat.le_of_ble_eq_true rfl) dL_comes_327 ⟨(Nat.le_of_ble_eq_true rfl), (Nat.le_of_ble_eq_true rfl)⟩) hS (fun q h => Or.inl h) hQ (Or.inl hd) (fun H locs hP hQ hS => ?_)
        have hwl2 := wy_le (mN (wtM (utM (wtM M2 i) i) (i - 1))) j
        have hw2 : ¬ wy (mN (wtM (utM (wtM M2 i) i) (i - 1))) j = 0 := fun z => by
          have w := (why_wt p1 (k := i - 1) (by omega) hj).mp z
          rw [p3] at w
          exact hm (i - 1) (by omega) w
        refine lv_if_le (tgt := 349) hx hb dL_comes_330 (by decide) (fun c13 => absurd c13 (nI_ge (a := 0) (b := wy (mN (wtM (utM (wtM M2 i) i) (i - 1))) j) (by omega) (by omega))) (fun _ => ?_)
        refine lv_aload_n hx hb dL_comes_333 rfl (lv_at hl 3 rfl) ?_
        refine lv_aload_n hx hb dL_comes_334 rfl (lv_at hl 4 rfl) ?_
        refine lv_iload hx hb dL_comes_335 (lv_at hl 1 rfl) ?_
        refine lv_iconst (v := 1) hx hb dL_comes_337 (by decide) ?_
        refine isub_n (a := i) (b := 1) hx hb (by omega) dL_comes_338 ?_
        refine cl_ci (rSP (A := (fun q => blk a (a + 170) q ∨ blk b (b + 170) q)) (As := [.ref a, .ref b, .int (nI (i - 1))]) (rest := []) ⟨hx, hb, hml, hown, hts⟩ (c_L_undoes l G a b hd (wt (ut (wt (yR X2 T6) i) i) (i - 1)) (wt (ut (wt Y2 i) i) (i - 1)) (wtM (utM (wtM M2 i) i) (i - 1)) (i - 1) hst (wt_R (k := i - 1) p1 (by omega)) (wt_R (k := i - 1) q1 (by omega)) (by omega) (wt_K (k := i - 1) p1.hk) (wt_K (k := i - 1) q1.hk)) (va_cwS 3 hts gL_comes_L_undoes rfl rfl rfl (by decide +kernel) ⟨(Nat.le_of_ble_eq_true rfl), (Nat.le_of_ble_eq_true rfl)⟩) ⟨hP, hQ⟩ hO (thr_at hTh hS (fun q h => h)) hN rfl hl.1 (Nat.le_of_ble_eq_true rfl) dL_comes_339 ⟨(Nat.le_of_ble_eq_true rfl), (Nat.le_of_ble_eq_true rfl)⟩) hS (fun q h => h) (fun H locs hP9 hz hk hS => ?_)
        obtain ⟨hP, hQ⟩ := hP9
        obtain ⟨s1, s2, s3⟩ := ww p1 p2 (k := i - 1) (by omega)
        obtain ⟨t1, t2, t3⟩ := ww q1 q2 (k := i - 1) (by omega)
        refine lv_if_eq (tgt := 349) hx hb dL_comes_342 (by decide) (fun c14 => absurd c14 (by decide)) (fun _ => ?_)
        refine lv_iconst (v := 1) hx hb dL_comes_345 (by decide) ?_
        refine lv_goto (tgt := 350) hx hb dL_comes_346 (by decide) ?_
        refine lv_istore (lv' := [(8, .int 1), (10, .int (nI i)), (9, .int (nI i)), (0, .ref a), (1, .ref b), (2, .int (nI n)), (3, .int (nI j)), (6, .int (nI (sm (isC (mN M) (-1)) 80)))]) hx hb dL_comes_350 hl (by decide) rfl (fun ls hl => ?_)
        refine W.widen (k := 40) (n := 240) (Nat.le_of_ble_eq_true rfl) (Nat.le_of_ble_eq_true rfl) ?_
        exact cut352 (ut (wt (ut (wt (yR X2 T6) i) i) (i - 1)) (i - 1)) (ut (wt (ut (wt Y2 i) i) (i - 1)) (i - 1)) (utM (wtM (utM (wtM M2 i) i) (i - 1)) (i - 1)) s1 t1 s2 t2 (s3.trans (p3.trans e2)) _ _ _ hP hQ hS (lv_sub hl [3, 4, 7, 0] rfl)
    · refine lv_bipush (v := 100) hx hb dL_comes_226 (by decide) ?_
      refine lv_goto (tgt := 233) hx hb dL_comes_228 (by decide) ?_
      refine lv_istore (lv' := [(10, .int 100), (9, .int (gw (xN X2) j)), (0, .ref a), (1, .ref b), (2, .int (nI n)), (3, .int (nI j)), (6, .int (nI (sm (isC (mN M) (-1)) 80))), (8, .int 1)]) hx hb dL_comes_233 hl (by decide) rfl (fun ls hl => ?_)
      refine lv_iload hx hb dL_comes_235 (lv_at hl 7 rfl) ?_
      refine lv_if_eq (tgt := 295) hx hb dL_comes_237 (by decide) (fun c15 => absurd c15 (by decide)) (fun _ => ?_)
      refine lv_aload_n hx hb dL_comes_240 rfl (lv_at hl 2 rfl) ?_
      refine lv_aload_n hx hb dL_comes_241 rfl (lv_at hl 3 rfl) ?_
      refine lv_iload hx hb dL_comes_242 (lv_at hl 0 rfl) ?_
      refine cl_ci (rSP (A := (fun q => blk a (a + 170) q ∨ blk b (b + 170) q)) (As := [.ref a, .ref b, .int 100]) (rest := []) ⟨hx, hb, hml, hown, hts⟩ (c_L_waits l G a b hd (yR X2 T6) Y2 M2 100 hst (r2x.yR T6) r2y (c2x.yR T6) c2y (by omega)) (va_cwS 3 hts gL_comes_L_waits rfl rfl rfl (by decide +kernel) ⟨(Nat.le_of_ble_eq_true rfl), (Nat.le_of_ble_eq_true rfl)⟩) ⟨hP, hQ⟩ hO (thr_at hTh hS (fun q h => h)) hN rfl hl.1 (Nat.le_of_ble_eq_true rfl) dL_comes_244 ⟨(Nat.le_of_ble_eq_true rfl), (Nat.le_of_ble_eq_true rfl)⟩) hS (fun q h => h) (fun H locs hP9 hz hk hS => ?_)
      obtain ⟨hP, hQ⟩ := hP9
      refine lv_if_eq (tgt := 295) hx hb dL_comes_247 (by decide) (fun c16 => absurd c16 (by decide)) (fun _ => ?_)
      refine lv_aload_n hx hb dL_comes_250 rfl (lv_at hl 2 rfl) ?_
      refine lv_bipush (v := 14) hx hb dL_comes_251 (by decide) ?_
      refine lv_iload_n hx hb dL_comes_253 rfl (lv_at hl 5 rfl) ?_
      refine lv_iconst (v := 0) hx hb dL_comes_254 (by decide) ?_
      refine lv_iconst (v := 0) hx hb dL_comes_255 (by decide) ?_
      refine cl_o2 (rSP (A := blk a (a + 170)) (As := [.ref a, .int 14, .int (nI j), .int 0, .int 0]) (rest := []) ⟨hx, hb, hml, hown, hts⟩ (c_call_14 l G a (wt (yR X2 T6) 100) (nI j) 0 0 (nI (wy (mN (wtM M2 100)) j)) (wt (yR X2 T6) 100) hst (rd_why (wt_R (k := 100) (r2x.yR T6) (by omega)) hj)) (va_cwS 5 hts gL_comes_L_call rfl rfl rfl (by decide +kernel) ⟨(Nat.le_of_ble_eq_true rfl), (Nat.le_of_ble_eq_true rfl)⟩) hP hO (thr_at hTh hS (fun q h => Or.inl h)) hN rfl hl.1 (Nat.le_of_ble_eq_true rfl) dL_comes_256 ⟨(Nat.le_of_ble_eq_true rfl), (Nat.le_of_ble_eq_true rfl)⟩) hS (fun q h => Or.inl h) hQ (Or.inl hd) (fun H locs hP hQ hS => ?_)
      have hwl := wy_le (mN (wtM M2 100)) j
      have hw : ¬ wy (mN (wtM M2 100)) j = 0 := fun z => gw_no c3 (by omega) ((why_wt (r2x.yR T6) (k := 100) (by omega) hj).mp z)
      refine lv_if_ne (tgt := 266) hx hb dL_comes_259 (by decide) (fun _ => ?_) (fun c17 => absurd c17 (fun z => absurd (nI_inj (a := wy (mN (wtM M2 100)) j) (b := 0) (by omega) (by omega) z) (by omega)))
      refine lv_iconst (v := 0) hx hb dL_comes_266 (by decide) ?_
      refine lv_iload hx hb dL_comes_267 (lv_at hl 1 rfl) ?_
      refine lv_iconst (v := -1) hx hb dL_comes_269 (by decide) ?_
      refine lv_icmp_eq (tgt := 277) hx hb dL_comes_270 (by decide) (fun _ => ?_) (fun c18 => absurd c3 c18)
      refine lv_iconst (v := 0) hx hb dL_comes_277 (by decide) ?_
      refine lv_icmp_ne (tgt := 295) hx hb dL_comes_278 (by decide) (fun c19 => absurd (by decide) c19) (fun _ => ?_)
      refine lv_aload_n hx hb dL_comes_281 rfl (lv_at hl 2 rfl) ?_
      refine lv_aload_n hx hb dL_comes_282 rfl (lv_at hl 3 rfl) ?_
      refine lv_iload hx hb dL_comes_283 (lv_at hl 0 rfl) ?_
      refine cl_ci (rSP (A := (fun q => blk a (a + 170) q ∨ blk b (b + 170) q)) (As := [.ref a, .ref b, .int 100]) (rest := []) ⟨hx, hb, hml, hown, hts⟩ (c_L_undoes l G a b hd (wt (yR X2 T6) 100) (wt Y2 100) (wtM M2 100) 100 hst (wt_R (k := 100) (r2x.yR T6) (by omega)) (wt_R (k := 100) r2y (by omega)) (by omega) (wt_K (k := 100) (r2x.yR T6).hk) (wt_K (k := 100) r2y.hk)) (va_cwS 3 hts gL_comes_L_undoes rfl rfl rfl (by decide +kernel) ⟨(Nat.le_of_ble_eq_true rfl), (Nat.le_of_ble_eq_true rfl)⟩) ⟨hP, hQ⟩ hO (thr_at hTh hS (fun q h => h)) hN rfl hl.1 (Nat.le_of_ble_eq_true rfl) dL_comes_285 ⟨(Nat.le_of_ble_eq_true rfl), (Nat.le_of_ble_eq_true rfl)⟩) hS (fun q h => h) (fun H locs hP9 hz hk hS => ?_)
      obtain ⟨hP, hQ⟩ := hP9
      obtain ⟨p1, p2, p3⟩ := ww (r2x.yR T6) (c2x.yR T6) (k := 100) (by omega)
      obtain ⟨q1, q2, q3⟩ := ww r2y c2y (k := 100) (by omega)
      refine lv_if_eq (tgt := 295) hx hb dL_comes_288 (by decide) (fun c20 => absurd c20 (by decide)) (fun _ => ?_)
      refine lv_iconst (v := 1) hx hb dL_comes_291 (by decide) ?_
      refine lv_goto (tgt := 296) hx hb dL_comes_292 (by decide) ?_
      refine lv_istore (lv' := [(8, .int 1), (10, .int 100), (9, .int (gw (xN X2) j)), (0, .ref a), (1, .ref b), (2, .int (nI n)), (3, .int (nI j)), (6, .int (nI (sm (isC (mN M) (-1)) 80)))]) hx hb dL_comes_296 hl (by decide) rfl (fun ls hl => ?_)
      refine lv_iload hx hb dL_comes_298 (lv_at hl 1 rfl) ?_
      refine lv_iconst (v := 1) hx hb dL_comes_300 (by decide) ?_
      refine lv_icmp_le (tgt := 352) hx hb dL_comes_301 (by decide) (fun c21 => ?_) (fun c21 => ?_)
      · have c21f : 100 ≤ 1 := (nI_leI (a := 100) (b := 1) (by omega) (by omega)).mp c21
        refine W.widen (k := 40) (n := 240) (Nat.le_of_ble_eq_true rfl) (Nat.le_of_ble_eq_true rfl) ?_
        exact cut352 (ut (wt (yR X2 T6) 100) 100) (ut (wt Y2 100) 100) (utM (wtM M2 100) 100) p1 q1 p2 q2 (p3.trans e2) _ _ _ hP hQ hS (lv_sub hl [3, 4, 7, 0] rfl)
      · have c21f : ¬ 100 ≤ 1 := fun z => c21 ((nI_leI (a := 100) (b := 1) (by omega) (by omega)).mpr z)
        refine lv_iload hx hb dL_comes_304 (lv_at hl 0 rfl) ?_
        refine lv_if_eq (tgt := 352) hx hb dL_comes_306 (by decide) (fun c22 => absurd c22 (by decide)) (fun _ => ?_)
        refine lv_aload_n hx hb dL_comes_309 rfl (lv_at hl 3 rfl) ?_
        refine lv_aload_n hx hb dL_comes_310 rfl (lv_at hl 4 rfl) ?_
        refine lv_iload hx hb dL_comes_311 (lv_at hl 1 rfl) ?_
        refine lv_iconst (v := 1) hx hb dL_comes_313 (by decide) ?_
        refine isub_n (a := 100) (b := 1) hx hb (by omega) dL_comes_314 ?_
        refine cl_ci (rSP (A := (fun q => blk a (a + 170) q ∨ blk b (b + 170) q)) (As := [.ref a, .ref b, .int (nI (100 - 1))]) (rest := []) ⟨hx, hb, hml, hown, hts⟩ (c_L_waits l G a b hd (ut (wt (yR X2 T6) 100) 100) (ut (wt Y2 100) 100) (utM (wtM M2 100) 100) (100 - 1) hst p1 q1 p2 q2 (by omega)) (va_cwS 3 hts gL_comes_L_waits rfl rfl rfl (by decide +kernel) ⟨(Nat.le_of_ble_eq_true rfl), (Nat.le_of_ble_eq_true rfl)⟩) ⟨hP, hQ⟩ hO (thr_at hTh hS (fun q h => h)) hN rfl hl.1 (Nat.le_of_ble_eq_true rfl) dL_comes_315 ⟨(Nat.le_of_ble_eq_true rfl), (Nat.le_of_ble_eq_true rfl)⟩) hS (fun q h => h) (fun H locs hP9 hz hk hS => ?_)
        obtain ⟨hP, hQ⟩ := hP9
        refine lv_if_eq (tgt := 349) hx hb dL_comes_318 (by decide) (fun c23 => absurd c23 (by decide)) (fun _ => ?_)
        refine lv_aload_n hx hb dL_comes_321 rfl (lv_at hl 3 rfl) ?_
        refine lv_bipush (v := 14) hx hb dL_comes_322 (by decide) ?_
        refine lv_iload_n hx hb dL_comes_324 rfl (lv_at hl 6 rfl) ?_
        refine lv_iconst (v := 0) hx hb dL_comes_325 (by decide) ?_
        refine lv_iconst (v := 0) hx hb dL_comes_326 (by decide) ?_
        refine cl_o2 (rSP (A := blk a (a + 170)) (As := [.ref a, .int 14, .int (nI j), .int 0, .int 0]) (rest := []) ⟨hx, hb, hml, hown, hts⟩ (c_call_14 l G a (wt (ut (wt (yR X2 T6) 100) 100) (100 - 1)) (nI j) 0 0 (nI (wy (mN (wtM (utM (wtM M2 100) 100) (100 - 1))) j)) (wt (ut (wt (yR X2 T6) 100) 100) (100 - 1)) hst (rd_why (wt_R (k := 100 - 1) p1 (by omega)) hj)) (va_cwS 5 hts gL_comes_L_call rfl rfl rfl (by decide +kernel) ⟨(Nat.le_of_ble_eq_true rfl), (Nat.le_of_ble_eq_true rfl)⟩) hP hO (thr_at hTh hS (fun q h => Or.inl h)) hN rfl hl.1 (Nat.le_of_ble_eq_true rfl) dL_comes_327 ⟨(Nat.le_of_ble_eq_true rfl), (Nat.le_of_ble_eq_true rfl)⟩) hS (fun q h => Or.inl h) hQ (Or.inl hd) (fun H locs hP hQ hS => ?_)
        have hwl2 := wy_le (mN (wtM (utM (wtM M2 100) 100) (100 - 1))) j
        have hw2 : ¬ wy (mN (wtM (utM (wtM M2 100) 100) (100 - 1))) j = 0 := fun z => by
          have w := (why_wt p1 (k := 100 - 1) (by omega) hj).mp z
          rw [p3] at w
          exact gw_no c3 (i := 100 - 1) (by omega) w
        refine lv_if_le (tgt := 349) hx hb dL_comes_330 (by decide) (fun c24 => absurd c24 (nI_ge (a := 0) (b := wy (mN (wtM (utM (wtM M2 100) 100) (100 - 1))) j) (by omega) (by omega))) (fun _ => ?_)
        refine lv_aload_n hx hb dL_comes_333 rfl (lv_at hl 3 rfl) ?_
        refine lv_aload_n hx hb dL_comes_334 rfl (lv_at hl 4 rfl) ?_
        refine lv_iload hx hb dL_comes_335 (lv_at hl 1 rfl) ?_
        refine lv_iconst (v := 1) hx hb dL_comes_337 (by decide) ?_
        refine isub_n (a := 100) (b := 1) hx hb (by omega) dL_comes_338 ?_
        refine cl_ci (rSP (A := (fun q => blk a (a + 170) q ∨ blk b (b + 170) q)) (As := [.ref a, .ref b, .int (nI (100 - 1))]) (rest := []) ⟨hx, hb, hml, hown, hts⟩ (c_L_undoes l G a b hd (wt (ut (wt (yR X2 T6) 100) 100) (100 - 1)) (wt (ut (wt Y2 100) 100) (100 - 1)) (wtM (utM (wtM M2 100) 100) (100 - 1)) (100 - 1) hst (wt_R (k := 100 - 1) p1 (by omega)) (wt_R (k := 100 - 1) q1 (by omega)) (by omega) (wt_K (k := 100 - 1) p1.hk) (wt_K (k := 100 - 1) q1.hk)) (va_cwS 3 hts gL_comes_L_undoes rfl rfl rfl (by decide +kernel) ⟨(Nat.le_of_ble_eq_true rfl), (Nat.le_of_ble_eq_true rfl)⟩) ⟨hP, hQ⟩ hO (thr_at hTh hS (fun q h => h)) hN rfl hl.1 (Nat.le_of_ble_eq_true rfl) dL_comes_339 ⟨(Nat.le_of_ble_eq_true rfl), (Nat.le_of_ble_eq_true rfl)⟩) hS (fun q h => h) (fun H locs hP9 hz hk hS => ?_)
        obtain ⟨hP, hQ⟩ := hP9
        obtain ⟨s1, s2, s3⟩ := ww p1 p2 (k := 100 - 1) (by omega)
        obtain ⟨t1, t2, t3⟩ := ww q1 q2 (k := 100 - 1) (by omega)
        refine lv_if_eq (tgt := 349) hx hb dL_comes_342 (by decide) (fun c25 => absurd c25 (by decide)) (fun _ => ?_)
        refine lv_iconst (v := 1) hx hb dL_comes_345 (by decide) ?_
        refine lv_goto (tgt := 350) hx hb dL_comes_346 (by decide) ?_
        refine lv_istore (lv' := [(8, .int 1), (10, .int 100), (9, .int (gw (xN X2) j)), (0, .ref a), (1, .ref b), (2, .int (nI n)), (3, .int (nI j)), (6, .int (nI (sm (isC (mN M) (-1)) 80)))]) hx hb dL_comes_350 hl (by decide) rfl (fun ls hl => ?_)
        refine W.widen (k := 40) (n := 240) (Nat.le_of_ble_eq_true rfl) (Nat.le_of_ble_eq_true rfl) ?_
        exact cut352 (ut (wt (ut (wt (yR X2 T6) 100) 100) (100 - 1)) (100 - 1)) (ut (wt (ut (wt Y2 100) 100) (100 - 1)) (100 - 1)) (utM (wtM (utM (wtM M2 100) 100) (100 - 1)) (100 - 1)) s1 t1 s2 t2 (s3.trans (p3.trans e2)) _ _ _ hP hQ hS (lv_sub hl [3, 4, 7, 0] rfl)
  refine lv_iconst (v := 2) hx hb dL_comes_0 (by decide) ?_
  refine lv_iload_n hx hb dL_comes_1 rfl (lv_at hl 2 rfl) ?_
  refine lv_bipush (v := 7) hx hb dL_comes_2 (by decide) ?_
  refine irem_n (a := n) (b := 7) hx hb ⟨by omega, by decide, by decide⟩ dL_comes_4 ?_
  refine iadd_n (a := 2) (b := n % 7) hx hb dL_comes_5 ?_
  rw [show nI (2 + (n % 7)) = nI j from congrArg nI ej]
  refine lv_istore_n (lv' := [(3, .int (nI j)), (0, .ref a), (1, .ref b), (2, .int (nI n))]) hx hb dL_comes_6 rfl hl (by decide) rfl (fun ls hl => ?_)
  refine lv_aload_n hx hb dL_comes_7 rfl (lv_at hl 1 rfl) ?_
  refine lv_iconst (v := 2) hx hb dL_comes_8 (by decide) ?_
  refine lv_iconst (v := 0) hx hb dL_comes_9 (by decide) ?_
  refine lv_iconst (v := 0) hx hb dL_comes_10 (by decide) ?_
  refine lv_iconst (v := 0) hx hb dL_comes_11 (by decide) ?_
  refine cl_o2 (rSP (A := blk a (a + 170)) (As := [.ref a, .int 2, .int 0, .int 0, .int 0]) (rest := []) ⟨hx, hb, hml, hown, hts⟩ (c_call_2 l G a X 0 0 0 (nI (gm (mN M))) X hst (rd_ab0 RX)) (va_cwS 5 hts gL_comes_L_call rfl rfl rfl (by decide +kernel) ⟨(Nat.le_of_ble_eq_true rfl), (Nat.le_of_ble_eq_true rfl)⟩) hP hO (thr_at hTh hS (fun q h => Or.inl h)) hN rfl hl.1 (Nat.le_of_ble_eq_true rfl) dL_comes_12 ⟨(Nat.le_of_ble_eq_true rfl), (Nat.le_of_ble_eq_true rfl)⟩) hS (fun q h => Or.inl h) hQ (Or.inl hd) (fun H locs hP hQ hS => ?_)
  refine lv_istore (lv' := [(4, .int (nI (gm (mN M)))), (3, .int (nI j)), (0, .ref a), (1, .ref b), (2, .int (nI n))]) hx hb dL_comes_15 hl (by decide) rfl (fun ls hl => ?_)
  refine lv_aload_n hx hb dL_comes_17 rfl (lv_at hl 2 rfl) ?_
  refine lv_bipush (v := 15) hx hb dL_comes_18 (by decide) ?_
  refine lv_iload_n hx hb dL_comes_20 rfl (lv_at hl 1 rfl) ?_
  refine lv_iconst (v := 0) hx hb dL_comes_21 (by decide) ?_
  refine lv_iconst (v := 0) hx hb dL_comes_22 (by decide) ?_
  refine cl_o2 (rSP (A := blk a (a + 170)) (As := [.ref a, .int 15, .int (nI j), .int 0, .int 0]) (rest := []) ⟨hx, hb, hml, hown, hts⟩ (c_call_15 l G a X (nI j) 0 0 (pl (mN M) j) X hst (rd_place RX hj)) (va_cwS 5 hts gL_comes_L_call rfl rfl rfl (by decide +kernel) ⟨(Nat.le_of_ble_eq_true rfl), (Nat.le_of_ble_eq_true rfl)⟩) hP hO (thr_at hTh hS (fun q h => Or.inl h)) hN rfl hl.1 (Nat.le_of_ble_eq_true rfl) dL_comes_23 ⟨(Nat.le_of_ble_eq_true rfl), (Nat.le_of_ble_eq_true rfl)⟩) hS (fun q h => Or.inl h) hQ (Or.inl hd) (fun H locs hP hQ hS => ?_)
  refine lv_istore (lv' := [(5, .int (pl (mN M) j)), (4, .int (nI (gm (mN M)))), (3, .int (nI j)), (0, .ref a), (1, .ref b), (2, .int (nI n))]) hx hb dL_comes_26 hl (by decide) rfl (fun ls hl => ?_)
  refine lv_aload_n hx hb dL_comes_28 rfl (lv_at hl 3 rfl) ?_
  refine lv_iconst (v := 2) hx hb dL_comes_29 (by decide) ?_
  refine lv_bipush (v := 9) hx hb dL_comes_30 (by decide) ?_
  refine lv_iconst (v := 0) hx hb dL_comes_32 (by decide) ?_
  refine lv_iconst (v := 0) hx hb dL_comes_33 (by decide) ?_
  refine cl_o2 (rSP (A := blk a (a + 170)) (As := [.ref a, .int 2, .int 9, .int 0, .int 0]) (rest := []) ⟨hx, hb, hml, hown, hts⟩ (c_call_2 l G a X 9 0 0 (nI (sm (isC (mN M) (-1)) 80)) X hst (rd_ab9 RX)) (va_cwS 5 hts gL_comes_L_call rfl rfl rfl (by decide +kernel) ⟨(Nat.le_of_ble_eq_true rfl), (Nat.le_of_ble_eq_true rfl)⟩) hP hO (thr_at hTh hS (fun q h => Or.inl h)) hN rfl hl.1 (Nat.le_of_ble_eq_true rfl) dL_comes_34 ⟨(Nat.le_of_ble_eq_true rfl), (Nat.le_of_ble_eq_true rfl)⟩) hS (fun q h => Or.inl h) hQ (Or.inl hd) (fun H locs hP hQ hS => ?_)
  refine lv_istore (lv' := [(6, .int (nI (sm (isC (mN M) (-1)) 80))), (5, .int (pl (mN M) j)), (4, .int (nI (gm (mN M)))), (3, .int (nI j)), (0, .ref a), (1, .ref b), (2, .int (nI n))]) hx hb dL_comes_37 hl (by decide) rfl (fun ls hl => ?_)
  refine lv_aload_n hx hb dL_comes_39 rfl (lv_at hl 4 rfl) ?_
  refine lv_bipush (v := 16) hx hb dL_comes_40 (by decide) ?_
  refine lv_iload_n hx hb dL_comes_42 rfl (lv_at hl 3 rfl) ?_
  refine lv_iconst (v := 0) hx hb dL_comes_43 (by decide) ?_
  refine lv_iconst (v := 0) hx hb dL_comes_44 (by decide) ?_
  refine cl_o2 (rSP (A := blk a (a + 170)) (As := [.ref a, .int 16, .int (nI j), .int 0, .int 0]) (rest := []) ⟨hx, hb, hml, hown, hts⟩ (c_call_16 l G a X (nI j) 0 0 (nI (nf (mN M) j)) (yR X T5) hst eT5) (va_cwS 5 hts gL_comes_L_call rfl rfl rfl (by decide +kernel) ⟨(Nat.le_of_ble_eq_true rfl), (Nat.le_of_ble_eq_true rfl)⟩) hP hO (thr_at hTh hS (fun q h => Or.inl h)) hN rfl hl.1 (Nat.le_of_ble_eq_true rfl) dL_comes_45 ⟨(Nat.le_of_ble_eq_true rfl), (Nat.le_of_ble_eq_true rfl)⟩) hS (fun q h => Or.inl h) hQ (Or.inl hd) (fun H locs hP hQ hS => ?_)
  refine lv_istore (lv' := [(7, .int (nI (nf (mN M) j))), (6, .int (nI (sm (isC (mN M) (-1)) 80))), (5, .int (pl (mN M) j)), (4, .int (nI (gm (mN M)))), (3, .int (nI j)), (0, .ref a), (1, .ref b), (2, .int (nI n))]) hx hb dL_comes_48 hl (by decide) rfl (fun ls hl => ?_)
  refine lv_iconst (v := 1) hx hb dL_comes_50 (by decide) ?_
  refine lv_istore (lv' := [(8, .int 1), (7, .int (nI (nf (mN M) j))), (6, .int (nI (sm (isC (mN M) (-1)) 80))), (5, .int (pl (mN M) j)), (4, .int (nI (gm (mN M)))), (3, .int (nI j)), (0, .ref a), (1, .ref b), (2, .int (nI n))]) hx hb dL_comes_51 hl (by decide) rfl (fun ls hl => ?_)
  refine lv_iload hx hb dL_comes_53 (lv_at hl 4 rfl) ?_
  refine lv_bipush (v := 40) hx hb dL_comes_55 (by decide) ?_
  refine lv_icmp_ge (tgt := 209) hx hb dL_comes_57 (by decide) (fun c26 => ?_) (fun c26 => ?_)
  · refine W.widen (k := 15) (n := 90) (Nat.le_of_ble_eq_true rfl) (Nat.le_of_ble_eq_true rfl) ?_
    exact cut209 (yR X T5) Y M (RX.yR T5) RY (CX.yR T5) CY rfl _ _ _ hP hQ hS (lv_sub hl [6, 7, 8, 5, 2, 0] rfl)
  · have h40 : gm (mN M) < 40 := by
      exact Nat.lt_of_not_le (fun z => c26 (nI_le z (by omega)))
    obtain ⟨x1, x2, x3, x4, x5, x6⟩ := come_X (RX.yR T5) (CX.yR T5) h40 hj
    obtain ⟨y1, y2, y3, y4, y5, y6⟩ := come_X RY CY h40 hj
    obtain ⟨r1, r2, r3, r4, r5, r6⟩ := come_r (RX.yR T5) h40 hj
    refine lv_aload_n hx hb dL_comes_60 rfl (lv_at hl 6 rfl) ?_
    refine lv_bipush (v := 7) hx hb dL_comes_61 (by decide) ?_
    refine lv_iload_n hx hb dL_comes_63 rfl (lv_at hl 5 rfl) ?_
    refine lv_bipush (v := 9) hx hb dL_comes_64 (by decide) ?_
    refine lv_iconst (v := 0) hx hb dL_comes_66 (by decide) ?_
    refine cl_o2 (rSP (A := blk a (a + 170)) (As := [.ref a, .int 7, .int (nI j), .int 9, .int 0]) (rest := []) ⟨hx, hb, hml, hown, hts⟩ (c_call_7 l G a (yR X T5) (nI j) 9 0 (nI (gm (mN M))) (cX (yR X T5) j) hst ((RX.yR T5)).ho ((RX.yR T5)).hk x1) (va_cwS 5 hts gL_comes_L_call rfl rfl rfl (by decide +kernel) ⟨(Nat.le_of_ble_eq_true rfl), (Nat.le_of_ble_eq_true rfl)⟩) hP hO (thr_at hTh hS (fun q h => Or.inl h)) hN rfl hl.1 (Nat.le_of_ble_eq_true rfl) dL_comes_67 ⟨(Nat.le_of_ble_eq_true rfl), (Nat.le_of_ble_eq_true rfl)⟩) hS (fun q h => Or.inl h) hQ (Or.inl hd) (fun H locs hP hQ hS => ?_)
    refine lv_iload hx hb dL_comes_70 (lv_at hl 4 rfl) ?_
    refine lv_icmp_ne (tgt := 206) hx hb dL_comes_72 (by decide) (fun c27 => absurd (congrArg nI (show (gm (mN M) : Nat) = gm (mN M) by omega)) c27) (fun _ => ?_)
    refine lv_aload_n hx hb dL_comes_75 rfl (lv_at hl 7 rfl) ?_
    refine lv_bipush (v := 7) hx hb dL_comes_76 (by decide) ?_
    refine lv_iload_n hx hb dL_comes_78 rfl (lv_at hl 5 rfl) ?_
    refine lv_bipush (v := 9) hx hb dL_comes_79 (by decide) ?_
    refine lv_iconst (v := 0) hx hb dL_comes_81 (by decide) ?_
    refine cl_o2 (rSP (A := blk b (b + 170)) (As := [.ref b, .int 7, .int (nI j), .int 9, .int 0]) (rest := []) ⟨hx, hb, hml, hown, hts⟩ (c_call_7 l G b Y (nI j) 9 0 (nI (gm (mN M))) (cX Y j) hst (RY).ho (RY).hk y1) (va_cwS 5 hts gL_comes_L_call rfl rfl rfl (by decide +kernel) ⟨(Nat.le_of_ble_eq_true rfl), (Nat.le_of_ble_eq_true rfl)⟩) hQ hO (thr_at hTh hS (fun q h => Or.inr h)) hN rfl hl.1 (Nat.le_of_ble_eq_true rfl) dL_comes_82 ⟨(Nat.le_of_ble_eq_true rfl), (Nat.le_of_ble_eq_true rfl)⟩) hS (fun q h => Or.inr h) hP (Or.inr hd) (fun H locs hQ hP hS => ?_)
    refine lv_iload hx hb dL_comes_85 (lv_at hl 4 rfl) ?_
    refine lv_icmp_ne (tgt := 206) hx hb dL_comes_87 (by decide) (fun c28 => absurd (congrArg nI (show (gm (mN M) : Nat) = gm (mN M) by omega)) c28) (fun _ => ?_)
    refine lv_aload_n hx hb dL_comes_90 rfl (lv_at hl 6 rfl) ?_
    refine lv_iconst (v := 3) hx hb dL_comes_91 (by decide) ?_
    refine lv_iload hx hb dL_comes_92 (lv_at hl 4 rfl) ?_
    refine lv_iconst (v := 3) hx hb dL_comes_94 (by decide) ?_
    refine lv_iconst (v := 0) hx hb dL_comes_95 (by decide) ?_
    refine cl_o2 (rSP (A := blk a (a + 170)) (As := [.ref a, .int 3, .int (nI (gm (mN M))), .int 3, .int 0]) (rest := []) ⟨hx, hb, hml, hown, hts⟩ (c_call_3 l G a (cX (yR X T5) j) (nI (gm (mN M))) 3 0 (pl (mN M) j) (cX (yR X T5) j) hst r1) (va_cwS 5 hts gL_comes_L_call rfl rfl rfl (by decide +kernel) ⟨(Nat.le_of_ble_eq_true rfl), (Nat.le_of_ble_eq_true rfl)⟩) hP hO (thr_at hTh hS (fun q h => Or.inl h)) hN rfl hl.1 (Nat.le_of_ble_eq_true rfl) dL_comes_96 ⟨(Nat.le_of_ble_eq_true rfl), (Nat.le_of_ble_eq_true rfl)⟩) hS (fun q h => Or.inl h) hQ (Or.inl hd) (fun H locs hP hQ hS => ?_)
    refine lv_iload hx hb dL_comes_99 (lv_at hl 3 rfl) ?_
    refine lv_icmp_ne (tgt := 206) hx hb dL_comes_101 (by decide) (fun c29 => absurd rfl c29) (fun _ => ?_)
    refine lv_aload_n hx hb dL_comes_104 rfl (lv_at hl 6 rfl) ?_
    refine lv_iconst (v := 3) hx hb dL_comes_105 (by decide) ?_
    refine lv_iload hx hb dL_comes_106 (lv_at hl 4 rfl) ?_
    refine lv_iconst (v := 2) hx hb dL_comes_108 (by decide) ?_
    refine lv_iconst (v := 0) hx hb dL_comes_109 (by decide) ?_
    refine cl_o2 (rSP (A := blk a (a + 170)) (As := [.ref a, .int 3, .int (nI (gm (mN M))), .int 2, .int 0]) (rest := []) ⟨hx, hb, hml, hown, hts⟩ (c_call_3 l G a (cX (yR X T5) j) (nI (gm (mN M))) 2 0 (nI (np (mN M) j 1 0)) (cX (yR X T5) j) hst r2) (va_cwS 5 hts gL_comes_L_call rfl rfl rfl (by decide +kernel) ⟨(Nat.le_of_ble_eq_true rfl), (Nat.le_of_ble_eq_true rfl)⟩) hP hO (thr_at hTh hS (fun q h => Or.inl h)) hN rfl hl.1 (Nat.le_of_ble_eq_true rfl) dL_comes_110 ⟨(Nat.le_of_ble_eq_true rfl), (Nat.le_of_ble_eq_true rfl)⟩) hS (fun q h => Or.inl h) hQ (Or.inl hd) (fun H locs hP hQ hS => ?_)
    refine lv_iload hx hb dL_comes_113 (lv_at hl 3 rfl) ?_
    refine lv_iconst (v := -1) hx hb dL_comes_115 (by decide) ?_
    refine lv_icmp_ne (tgt := 123) hx hb dL_comes_116 (by decide) (fun c30 => ?_) (fun c30 => ?_)
    · have hnp1 : np (mN M) j 1 0 = 0 := by rw [np, if_neg c30]
      have hnp2 : np (mN M) j 0 j = j := by rw [np, if_neg c30]
      have hnp3 : np (mN M) j 0 1 = 1 := by rw [np, if_neg c30]
      refine lv_iconst (v := 0) hx hb dL_comes_123 (by decide) ?_
      refine lv_icmp_ne (tgt := 206) hx hb dL_comes_124 (by decide) (fun c31 => absurd (congrArg nI (show (np (mN M) j 1 0 : Nat) = 0 by omega)) c31) (fun _ => ?_)
      refine lv_aload_n hx hb dL_comes_127 rfl (lv_at hl 6 rfl) ?_
      refine lv_iconst (v := 2) hx hb dL_comes_128 (by decide) ?_
      refine lv_bipush (v := 9) hx hb dL_comes_129 (by decide) ?_
      refine lv_iconst (v := 0) hx hb dL_comes_131 (by decide) ?_
      refine lv_iconst (v := 0) hx hb dL_comes_132 (by decide) ?_
      refine cl_o2 (rSP (A := blk a (a + 170)) (As := [.ref a, .int 2, .int 9, .int 0, .int 0]) (rest := []) ⟨hx, hb, hml, hown, hts⟩ (c_call_2 l G a (cX (yR X T5) j) 9 0 0 (nI (sm (isC (mN M) (-1)) 80 - np (mN M) j 0 j)) (cX (yR X T5) j) hst r3) (va_cwS 5 hts gL_comes_L_call rfl rfl rfl (by decide +kernel) ⟨(Nat.le_of_ble_eq_true rfl), (Nat.le_of_ble_eq_true rfl)⟩) hP hO (thr_at hTh hS (fun q h => Or.inl h)) hN rfl hl.1 (Nat.le_of_ble_eq_true rfl) dL_comes_133 ⟨(Nat.le_of_ble_eq_true rfl), (Nat.le_of_ble_eq_true rfl)⟩) hS (fun q h => Or.inl h) hQ (Or.inl hd) (fun H locs hP hQ hS => ?_)
      refine lv_iload hx hb dL_comes_136 (lv_at hl 2 rfl) ?_
      refine lv_iload hx hb dL_comes_138 (lv_at hl 3 rfl) ?_
      refine lv_iconst (v := -1) hx hb dL_comes_140 (by decide) ?_
      refine lv_icmp_ne (tgt := 148) hx hb dL_comes_141 (by decide) (fun _ => ?_) (fun c32 => absurd c32 c30)
      refine lv_iload_n hx hb dL_comes_148 rfl (lv_at hl 5 rfl) ?_
      refine isub_n (a := sm (isC (mN M) (-1)) 80) (b := j) hx hb (by omega) dL_comes_149 ?_
      refine lv_icmp_ne (tgt := 206) hx hb dL_comes_150 (by decide) (fun c33 => absurd (congrArg nI (show (sm (isC (mN M) (-1)) 80 - np (mN M) j 0 j : Nat) = (sm (isC (mN M) (-1)) 80) - j by omega)) c33) (fun _ => ?_)
      refine lv_aload_n hx hb dL_comes_153 rfl (lv_at hl 6 rfl) ?_
      refine lv_bipush (v := 16) hx hb dL_comes_154 (by decide) ?_
      refine lv_iload_n hx hb dL_comes_156 rfl (lv_at hl 5 rfl) ?_
      refine lv_iconst (v := 1) hx hb dL_comes_157 (by decide) ?_
      refine lv_iconst (v := 0) hx hb dL_comes_158 (by decide) ?_
      refine cl_o2 (rSP (A := blk a (a + 170)) (As := [.ref a, .int 16, .int (nI j), .int 1, .int 0]) (rest := []) ⟨hx, hb, hml, hown, hts⟩ (c_call_16 l G a (cX (yR X T5) j) (nI j) 1 0 (nI (nf (mN (cM M j)) j)) (cX (yR X T5) j) hst r5) (va_cwS 5 hts gL_comes_L_call rfl rfl rfl (by decide +kernel) ⟨(Nat.le_of_ble_eq_true rfl), (Nat.le_of_ble_eq_true rfl)⟩) hP hO (thr_at hTh hS (fun q h => Or.inl h)) hN rfl hl.1 (Nat.le_of_ble_eq_true rfl) dL_comes_159 ⟨(Nat.le_of_ble_eq_true rfl), (Nat.le_of_ble_eq_true rfl)⟩) hS (fun q h => Or.inl h) hQ (Or.inl hd) (fun H locs hP hQ hS => ?_)
      refine lv_iload hx hb dL_comes_162 (lv_at hl 1 rfl) ?_
      refine lv_iload hx hb dL_comes_164 (lv_at hl 3 rfl) ?_
      refine lv_iconst (v := -1) hx hb dL_comes_166 (by decide) ?_
      refine lv_icmp_ne (tgt := 174) hx hb dL_comes_167 (by decide) (fun _ => ?_) (fun c34 => absurd c34 c30)
      refine lv_iconst (v := 1) hx hb dL_comes_174 (by decide) ?_
      refine isub_n (a := nf (mN M) j) (b := 1) hx hb (by omega) dL_comes_175 ?_
      refine lv_icmp_gt (tgt := 206) hx hb dL_comes_176 (by decide) (fun c35 => absurd c35 (nI_nlt (a := (nf (mN M) j) - 1) (b := nf (mN (cM M j)) j) (by omega) (by omega))) (fun _ => ?_)
      refine lv_aload_n hx hb dL_comes_179 rfl (lv_at hl 6 rfl) ?_
      refine lv_aload_n hx hb dL_comes_180 rfl (lv_at hl 7 rfl) ?_
      refine lv_iconst (v := 1) hx hb dL_comes_181 (by decide) ?_
      refine cl_ci (rSP (A := (fun q => blk a (a + 170) q ∨ blk b (b + 170) q)) (As := [.ref a, .ref b, .int 1]) (rest := []) ⟨hx, hb, hml, hown, hts⟩ (c_L_undoes l G a b hd (cX (yR X T5) j) (cX Y j) (cM M j) 1 hst x2 y2 (by omega) (by rw [un2_1]; omega) (by rw [un2_1]; omega)) (va_cwS 3 hts gL_comes_L_undoes rfl rfl rfl (by decide +kernel) ⟨(Nat.le_of_ble_eq_true rfl), (Nat.le_of_ble_eq_true rfl)⟩) ⟨hP, hQ⟩ hO (thr_at hTh hS (fun q h => h)) hN rfl hl.1 (Nat.le_of_ble_eq_true rfl) dL_comes_182 ⟨(Nat.le_of_ble_eq_true rfl), (Nat.le_of_ble_eq_true rfl)⟩) hS (fun q h => h) (fun H locs hP9 hz hk hS => ?_)
      obtain ⟨hP, hQ⟩ := hP9
      rw [ut_1] at hP hQ
      refine lv_if_eq (tgt := 206) hx hb dL_comes_185 (by decide) (fun c36 => absurd c36 (by decide)) (fun _ => ?_)
      refine lv_aload_n hx hb dL_comes_188 rfl (lv_at hl 6 rfl) ?_
      refine lv_bipush (v := 15) hx hb dL_comes_189 (by decide) ?_
      refine lv_iload_n hx hb dL_comes_191 rfl (lv_at hl 5 rfl) ?_
      refine lv_iconst (v := 0) hx hb dL_comes_192 (by decide) ?_
      refine lv_iconst (v := 0) hx hb dL_comes_193 (by decide) ?_
      refine cl_o2 (rSP (A := blk a (a + 170)) (As := [.ref a, .int 15, .int (nI j), .int 0, .int 0]) (rest := []) ⟨hx, hb, hml, hown, hts⟩ (c_call_15 l G a (un (cX (yR X T5) j)) (nI j) 0 0 (pl (mN M) j) (un (cX (yR X T5) j)) hst ((rd_place x4 hj).trans (by rw [show (h_X7_placeFor (mN (h_X7_undo (cM M j)).2) (nI j)).1 = pl (mN M) j from pl_N (RX.yR T5) x4 x6 hj]))) (va_cwS 5 hts gL_comes_L_call rfl rfl rfl (by decide +kernel) ⟨(Nat.le_of_ble_eq_true rfl), (Nat.le_of_ble_eq_true rfl)⟩) hP hO (thr_at hTh hS (fun q h => Or.inl h)) hN rfl hl.1 (Nat.le_of_ble_eq_true rfl) dL_comes_194 ⟨(Nat.le_of_ble_eq_true rfl), (Nat.le_of_ble_eq_true rfl)⟩) hS (fun q h => Or.inl h) hQ (Or.inl hd) (fun H locs hP hQ hS => ?_)
      refine lv_iload hx hb dL_comes_197 (lv_at hl 3 rfl) ?_
      refine lv_icmp_ne (tgt := 206) hx hb dL_comes_199 (by decide) (fun c37 => absurd rfl c37) (fun _ => ?_)
      refine lv_iconst (v := 1) hx hb dL_comes_202 (by decide) ?_
      refine lv_goto (tgt := 207) hx hb dL_comes_203 (by decide) ?_
      refine lv_istore (lv' := [(8, .int 1), (7, .int (nI (nf (mN M) j))), (6, .int (nI (sm (isC (mN M) (-1)) 80))), (5, .int (pl (mN M) j)), (4, .int (nI (gm (mN M)))), (3, .int (nI j)), (0, .ref a), (1, .ref b), (2, .int (nI n))]) hx hb dL_comes_207 hl (by decide) rfl (fun ls hl => ?_)
      refine W.widen (k := 15) (n := 90) (Nat.le_of_ble_eq_true rfl) (Nat.le_of_ble_eq_true rfl) ?_
      exact cut209 (un (cX (yR X T5) j)) (un (cX Y j)) ((h_X7_undo (cM M j)).2) x4 y4 x5 y5 x6 _ _ _ hP hQ hS (lv_sub hl [6, 7, 8, 5, 2, 0] rfl)
    · have hnp1 : np (mN M) j 1 0 = 1 := by rw [np, if_pos c30]
      have hnp2 : np (mN M) j 0 j = 0 := by rw [np, if_pos c30]
      have hnp3 : np (mN M) j 0 1 = 0 := by rw [np, if_pos c30]
      refine lv_iconst (v := 1) hx hb dL_comes_119 (by decide) ?_
      refine lv_goto (tgt := 124) hx hb dL_comes_120 (by decide) ?_
      refine lv_icmp_ne (tgt := 206) hx hb dL_comes_124 (by decide) (fun c38 => absurd (congrArg nI (show (np (mN M) j 1 0 : Nat) = 1 by omega)) c38) (fun _ => ?_)
      refine lv_aload_n hx hb dL_comes_127 rfl (lv_at hl 6 rfl) ?_
      refine lv_iconst (v := 2) hx hb dL_comes_128 (by decide) ?_
      refine lv_bipush (v := 9) hx hb dL_comes_129 (by decide) ?_
      refine lv_iconst (v := 0) hx hb dL_comes_131 (by decide) ?_
      refine lv_iconst (v := 0) hx hb dL_comes_132 (by decide) ?_
      refine cl_o2 (rSP (A := blk a (a + 170)) (As := [.ref a, .int 2, .int 9, .int 0, .int 0]) (rest := []) ⟨hx, hb, hml, hown, hts⟩ (c_call_2 l G a (cX (yR X T5) j) 9 0 0 (nI (sm (isC (mN M) (-1)) 80 - np (mN M) j 0 j)) (cX (yR X T5) j) hst r3) (va_cwS 5 hts gL_comes_L_call rfl rfl rfl (by decide +kernel) ⟨(Nat.le_of_ble_eq_true rfl), (Nat.le_of_ble_eq_true rfl)⟩) hP hO (thr_at hTh hS (fun q h => Or.inl h)) hN rfl hl.1 (Nat.le_of_ble_eq_true rfl) dL_comes_133 ⟨(Nat.le_of_ble_eq_true rfl), (Nat.le_of_ble_eq_true rfl)⟩) hS (fun q h => Or.inl h) hQ (Or.inl hd) (fun H locs hP hQ hS => ?_)
      refine lv_iload hx hb dL_comes_136 (lv_at hl 2 rfl) ?_
      refine lv_iload hx hb dL_comes_138 (lv_at hl 3 rfl) ?_
      refine lv_iconst (v := -1) hx hb dL_comes_140 (by decide) ?_
      refine lv_icmp_ne (tgt := 148) hx hb dL_comes_141 (by decide) (fun c39 => absurd c30 c39) (fun _ => ?_)
      refine lv_iconst (v := 0) hx hb dL_comes_144 (by decide) ?_
      refine lv_goto (tgt := 149) hx hb dL_comes_145 (by decide) ?_
      refine isub_n (a := sm (isC (mN M) (-1)) 80) (b := 0) hx hb (by omega) dL_comes_149 ?_
      refine lv_icmp_ne (tgt := 206) hx hb dL_comes_150 (by decide) (fun c40 => absurd (congrArg nI (show (sm (isC (mN M) (-1)) 80 - np (mN M) j 0 j : Nat) = (sm (isC (mN M) (-1)) 80) - 0 by omega)) c40) (fun _ => ?_)
      refine lv_aload_n hx hb dL_comes_153 rfl (lv_at hl 6 rfl) ?_
      refine lv_bipush (v := 16) hx hb dL_comes_154 (by decide) ?_
      refine lv_iload_n hx hb dL_comes_156 rfl (lv_at hl 5 rfl) ?_
      refine lv_iconst (v := 1) hx hb dL_comes_157 (by decide) ?_
      refine lv_iconst (v := 0) hx hb dL_comes_158 (by decide) ?_
      refine cl_o2 (rSP (A := blk a (a + 170)) (As := [.ref a, .int 16, .int (nI j), .int 1, .int 0]) (rest := []) ⟨hx, hb, hml, hown, hts⟩ (c_call_16 l G a (cX (yR X T5) j) (nI j) 1 0 (nI (nf (mN (cM M j)) j)) (cX (yR X T5) j) hst r5) (va_cwS 5 hts gL_comes_L_call rfl rfl rfl (by decide +kernel) ⟨(Nat.le_of_ble_eq_true rfl), (Nat.le_of_ble_eq_true rfl)⟩) hP hO (thr_at hTh hS (fun q h => Or.inl h)) hN rfl hl.1 (Nat.le_of_ble_eq_true rfl) dL_comes_159 ⟨(Nat.le_of_ble_eq_true rfl), (Nat.le_of_ble_eq_true rfl)⟩) hS (fun q h => Or.inl h) hQ (Or.inl hd) (fun H locs hP hQ hS => ?_)
      refine lv_iload hx hb dL_comes_162 (lv_at hl 1 rfl) ?_
      refine lv_iload hx hb dL_comes_164 (lv_at hl 3 rfl) ?_
      refine lv_iconst (v := -1) hx hb dL_comes_166 (by decide) ?_
      refine lv_icmp_ne (tgt := 174) hx hb dL_comes_167 (by decide) (fun c41 => absurd c30 c41) (fun _ => ?_)
      refine lv_iconst (v := 0) hx hb dL_comes_170 (by decide) ?_
      refine lv_goto (tgt := 175) hx hb dL_comes_171 (by decide) ?_
      refine isub_n (a := nf (mN M) j) (b := 0) hx hb (by omega) dL_comes_175 ?_
      refine lv_icmp_gt (tgt := 206) hx hb dL_comes_176 (by decide) (fun c42 => absurd c42 (nI_nlt (a := (nf (mN M) j) - 0) (b := nf (mN (cM M j)) j) (by omega) (by omega))) (fun _ => ?_)
      refine lv_aload_n hx hb dL_comes_179 rfl (lv_at hl 6 rfl) ?_
      refine lv_aload_n hx hb dL_comes_180 rfl (lv_at hl 7 rfl) ?_
      refine lv_iconst (v := 1) hx hb dL_comes_181 (by decide) ?_
      refine cl_ci (rSP (A := (fun q => blk a (a + 170) q ∨ blk b (b + 170) q)) (As := [.ref a, .ref b, .int 1]) (rest := []) ⟨hx, hb, hml, hown, hts⟩ (c_L_undoes l G a b hd (cX (yR X T5) j) (cX Y j) (cM M j) 1 hst x2 y2 (by omega) (by rw [un2_1]; omega) (by rw [un2_1]; omega)) (va_cwS 3 hts gL_comes_L_undoes rfl rfl rfl (by decide +kernel) ⟨(Nat.le_of_ble_eq_true rfl), (Nat.le_of_ble_eq_true rfl)⟩) ⟨hP, hQ⟩ hO (thr_at hTh hS (fun q h => h)) hN rfl hl.1 (Nat.le_of_ble_eq_true rfl) dL_comes_182 ⟨(Nat.le_of_ble_eq_true rfl), (Nat.le_of_ble_eq_true rfl)⟩) hS (fun q h => h) (fun H locs hP9 hz hk hS => ?_)
      obtain ⟨hP, hQ⟩ := hP9
      rw [ut_1] at hP hQ
      refine lv_if_eq (tgt := 206) hx hb dL_comes_185 (by decide) (fun c43 => absurd c43 (by decide)) (fun _ => ?_)
      refine lv_aload_n hx hb dL_comes_188 rfl (lv_at hl 6 rfl) ?_
      refine lv_bipush (v := 15) hx hb dL_comes_189 (by decide) ?_
      refine lv_iload_n hx hb dL_comes_191 rfl (lv_at hl 5 rfl) ?_
      refine lv_iconst (v := 0) hx hb dL_comes_192 (by decide) ?_
      refine lv_iconst (v := 0) hx hb dL_comes_193 (by decide) ?_
      refine cl_o2 (rSP (A := blk a (a + 170)) (As := [.ref a, .int 15, .int (nI j), .int 0, .int 0]) (rest := []) ⟨hx, hb, hml, hown, hts⟩ (c_call_15 l G a (un (cX (yR X T5) j)) (nI j) 0 0 (pl (mN M) j) (un (cX (yR X T5) j)) hst ((rd_place x4 hj).trans (by rw [show (h_X7_placeFor (mN (h_X7_undo (cM M j)).2) (nI j)).1 = pl (mN M) j from pl_N (RX.yR T5) x4 x6 hj]))) (va_cwS 5 hts gL_comes_L_call rfl rfl rfl (by decide +kernel) ⟨(Nat.le_of_ble_eq_true rfl), (Nat.le_of_ble_eq_true rfl)⟩) hP hO (thr_at hTh hS (fun q h => Or.inl h)) hN rfl hl.1 (Nat.le_of_ble_eq_true rfl) dL_comes_194 ⟨(Nat.le_of_ble_eq_true rfl), (Nat.le_of_ble_eq_true rfl)⟩) hS (fun q h => Or.inl h) hQ (Or.inl hd) (fun H locs hP hQ hS => ?_)
      refine lv_iload hx hb dL_comes_197 (lv_at hl 3 rfl) ?_
      refine lv_icmp_ne (tgt := 206) hx hb dL_comes_199 (by decide) (fun c44 => absurd rfl c44) (fun _ => ?_)
      refine lv_iconst (v := 1) hx hb dL_comes_202 (by decide) ?_
      refine lv_goto (tgt := 207) hx hb dL_comes_203 (by decide) ?_
      refine lv_istore (lv' := [(8, .int 1), (7, .int (nI (nf (mN M) j))), (6, .int (nI (sm (isC (mN M) (-1)) 80))), (5, .int (pl (mN M) j)), (4, .int (nI (gm (mN M)))), (3, .int (nI j)), (0, .ref a), (1, .ref b), (2, .int (nI n))]) hx hb dL_comes_207 hl (by decide) rfl (fun ls hl => ?_)
      refine W.widen (k := 15) (n := 90) (Nat.le_of_ble_eq_true rfl) (Nat.le_of_ble_eq_true rfl) ?_
      exact cut209 (un (cX (yR X T5) j)) (un (cX Y j)) ((h_X7_undo (cM M j)).2) x4 y4 x5 y5 x6 _ _ _ hP hQ hS (lv_sub hl [6, 7, 8, 5, 2, 0] rfl)
