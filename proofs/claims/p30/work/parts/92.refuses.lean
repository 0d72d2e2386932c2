set_option maxHeartbeats 16000000 in
set_option maxRecDepth 100000 in
theorem c_L_refuses_0 (l : Launch) (G : GG) (b : Nat) (X : Cx) (M : Mo) (n : Nat) (hst : l.stackTraces = false) (RX : RelX X M) (CX : Ch X) (hn : n < 100000) (hp : n % 2 = 0) : Met l yL_refuses wsL_refuses ({ frames := 12, cells := 50, slots := 300, locals := 210 }) (PcN G (blk b (b + 170)) [.ref b, .int (nI n)] (Cb G b X)) (QM (some (.int 1)) (Cb G b X) (blk b (b + 170))) 50 300 (blk b (b + 170)) := by
  refine metN (cc := cL_refuses) (maxL := 9) (ret := (some .boolean)) (by decide) rfl ?_
  intro p e s m below meth cd hx hb hr hml hown hts hlocks hP hO hTh hN
  have hg2 : 2 ≤ gm (mN M) := by rw [← nm_gm RX]; exact CX.1
  have hg40 := RX.nw.2.ri.m.2
  have hgaps := gaps_le (mN M)
  have hS : va_S (blk b (b + 170)) s.heap s.heap [] := va_S.rf
  have hl := lv_entry ([.ref b, .int (nI n)]) (n := 9) (Nat.le_of_ble_eq_true rfl)
  rw [lg_entry_eq]
  generalize (lg_sl ([.ref b, .int (nI n)]) ++ List.replicate (9 - (lg_sl ([.ref b, .int (nI n)])).length) Slot.unset).toArray = ls at hl ⊢
  have hl : lv_has ls 9 [(0, .ref b), (1, .int (nI n))] := hl
  have cut252 : ∀ (H : Heap) (locs : List Loc) (ls : Array Slot), Cb G b X H → va_S (blk b (b + 170)) s.heap H locs → lv_has ls 9 [(0, .ref b), (1, .int (nI n)), (2, .int (nI (gm (mN M)))), (3, .int ((-1 : Int32) - nI (n % 99))), (4, .int ((-1 : Int32) - nI (n % 99))), (5, .int (nI (f_X7_gaps (mN M)))), (6, .int ((1 : Int32) - nI (n % 9)))] → W p l e (headSpec wsL_refuses ({ frames := 12, cells := 50, slots := 300, locals := 210 } : Room)).room s m ([.ref b, .int (nI n)] : List Value).toArray below meth cd H locs 14 84 (MQ below (QM (some (.int 1)) (Cb G b X) (blk b (b + 170))) ([.ref b, .int (nI n)] : List Value).toArray s 50 300 (blk b (b + 170))) (F0 m 252 ls []) := by
    intro  H locs ls hP hS hl
    refine lv_aload_n hx hb dL_refuses_252 rfl (lv_at hl 0 rfl) ?_
    refine lv_bipush (v := 6) hx hb dL_refuses_253 (by decide) ?_
    refine lv_iconst (v := 3) hx hb dL_refuses_255 (by decide) ?_
    refine lv_iload_n hx hb dL_refuses_256 rfl (lv_at hl 1 rfl) ?_
    refine lv_bipush (v := 9) hx hb dL_refuses_257 (by decide) ?_
    refine irem_n (a := n) (b := 9) hx hb ⟨by omega, by decide, by decide⟩ dL_refuses_259 ?_
    refine iadd_n (a := 3) (b := n % 9) hx hb dL_refuses_260 ?_
    refine lv_iconst (v := 0) hx hb dL_refuses_261 (by decide) ?_
    refine lv_iconst (v := 0) hx hb dL_refuses_262 (by decide) ?_
    refine cl_o1 (rSP (A := blk b (b + 170)) (As := [.ref b, .int 6, .int (nI (3 + (n % 9))), .int 0, .int 0]) (rest := []) ⟨hx, hb, hml, hown, hts⟩ (c_call_6 l G b X (nI (3 + (n % 9))) 0 0 (-9999002) X hst (no_setting (k := 3 + n % 9) (by omega) (by omega))) (va_cwS 5 hts gL_refuses_L_call rfl rfl rfl (by decide +kernel) ⟨(Nat.le_of_ble_eq_true rfl), (Nat.le_of_ble_eq_true rfl)⟩) hP hO (thr_at hTh hS (fun q h => h)) hN rfl hl.1 (Nat.le_of_ble_eq_true rfl) dL_refuses_263 ⟨(Nat.le_of_ble_eq_true rfl), (Nat.le_of_ble_eq_true rfl)⟩) hS (fun q h => h) (fun H locs hP hS => ?_)
    refine lv_ldc (v := (-9999002)) hx hb hown (hts (.constant RL 25 (-9999002)) (by decide +kernel)) dL_refuses_266 ?_
    refine lv_icmp_ne (tgt := 735) hx hb dL_refuses_268 (by decide) (fun c1 => absurd (by decide) c1) (fun _ => ?_)
    refine lv_aload_n hx hb dL_refuses_271 rfl (lv_at hl 0 rfl) ?_
    refine lv_iload hx hb dL_refuses_272 (lv_at hl 4 rfl) ?_
    refine lv_iconst (v := 1) hx hb dL_refuses_274 (by decide) ?_
    refine cl_w1 (xSW (A := blk b (b + 170)) (As := [.ref b, .int ((-1 : Int32) - nI (n % 99)), .int 1]) (rest := []) ⟨hx, hb, hml, hown, hts⟩ (w_L_hydrants l G b X ((-1 : Int32) - nI (n % 99)) 1 (-9999001) X hst (RX).ho (RX).hk (no_hydrant 1 (Or.inl (m1_sub (j := n % 99) (by omega))))) (vx_cwSW 3 hts gL_refuses_L_hydrants rfl rfl rfl (by decide +kernel) ⟨(Nat.le_of_ble_eq_true rfl), (Nat.le_of_ble_eq_true rfl)⟩) hP hO (thr_at hTh hS (fun q h => h)) hN rfl hl.1 (Nat.le_of_ble_eq_true rfl) dL_refuses_275 ⟨(Nat.le_of_ble_eq_true rfl), (Nat.le_of_ble_eq_true rfl)⟩) hS (fun q h => h) (fun H locs hP hS => ?_)
    refine lv_ldc (v := (-9999001)) hx hb hown (hts (.constant RL 15 (-9999001)) (by decide +kernel)) dL_refuses_278 ?_
    refine lv_icmp_ne (tgt := 735) hx hb dL_refuses_280 (by decide) (fun c2 => absurd (by decide) c2) (fun _ => ?_)
    refine lv_aload_n hx hb dL_refuses_283 rfl (lv_at hl 0 rfl) ?_
    refine lv_bipush (v := 7) hx hb dL_refuses_284 (by decide) ?_
    refine lv_iload hx hb dL_refuses_286 (lv_at hl 6 rfl) ?_
    refine lv_iconst (v := 5) hx hb dL_refuses_288 (by decide) ?_
    refine lv_iconst (v := 0) hx hb dL_refuses_289 (by decide) ?_
    refine cl_o1 (rSP (A := blk b (b + 170)) (As := [.ref b, .int 7, .int ((1 : Int32) - nI (n % 9)), .int 5, .int 0]) (rest := []) ⟨hx, hb, hml, hown, hts⟩ (c_call_7 l G b X ((1 : Int32) - nI (n % 9)) 5 0 (-9999002) X hst (RX).ho (RX).hk (no_come 5 (Or.inl (one_sub (j := n % 9) (by omega))))) (va_cwS 5 hts gL_refuses_L_call rfl rfl rfl (by decide +kernel) ⟨(Nat.le_of_ble_eq_true rfl), (Nat.le_of_ble_eq_true rfl)⟩) hP hO (thr_at hTh hS (fun q h => h)) hN rfl hl.1 (Nat.le_of_ble_eq_true rfl) dL_refuses_290 ⟨(Nat.le_of_ble_eq_true rfl), (Nat.le_of_ble_eq_true rfl)⟩) hS (fun q h => h) (fun H locs hP hS => ?_)
    refine lv_ldc (v := (-9999002)) hx hb hown (hts (.constant RL 25 (-9999002)) (by decide +kernel)) dL_refuses_293 ?_
    refine lv_icmp_ne (tgt := 735) hx hb dL_refuses_295 (by decide) (fun c3 => absurd (by decide) c3) (fun _ => ?_)
    refine lv_aload_n hx hb dL_refuses_298 rfl (lv_at hl 0 rfl) ?_
    refine lv_bipush (v := 7) hx hb dL_refuses_299 (by decide) ?_
    refine lv_iconst (v := 5) hx hb dL_refuses_301 (by decide) ?_
    refine lv_iload_n hx hb dL_refuses_302 rfl (lv_at hl 1 rfl) ?_
    refine lv_iconst (v := 2) hx hb dL_refuses_303 (by decide) ?_
    refine irem_n (a := n) (b := 2) hx hb ⟨by omega, by decide, by decide⟩ dL_refuses_304 ?_
    refine lv_if_ne (tgt := 312) hx hb dL_refuses_305 (by decide) (fun c4 => absurd (congrArg nI (show (n % 2 : Nat) = 0 by omega)) c4) (fun _ => ?_)
    refine lv_iconst (v := 0) hx hb dL_refuses_308 (by decide) ?_
    refine lv_goto (tgt := 319) hx hb dL_refuses_309 (by decide) ?_
    refine lv_iconst (v := 0) hx hb dL_refuses_319 (by decide) ?_
    refine cl_o1 (rSP (A := blk b (b + 170)) (As := [.ref b, .int 7, .int 5, .int 0, .int 0]) (rest := []) ⟨hx, hb, hml, hown, hts⟩ (c_call_7 l G b X 5 0 0 (-9999002) X hst (RX).ho (RX).hk (no_come_s (Or.inl (by decide)))) (va_cwS 5 hts gL_refuses_L_call rfl rfl rfl (by decide +kernel) ⟨(Nat.le_of_ble_eq_true rfl), (Nat.le_of_ble_eq_true rfl)⟩) hP hO (thr_at hTh hS (fun q h => h)) hN rfl hl.1 (Nat.le_of_ble_eq_true rfl) dL_refuses_320 ⟨(Nat.le_of_ble_eq_true rfl), (Nat.le_of_ble_eq_true rfl)⟩) hS (fun q h => h) (fun H locs hP hS => ?_)
    refine lv_ldc (v := (-9999002)) hx hb hown (hts (.constant RL 25 (-9999002)) (by decide +kernel)) dL_refuses_323 ?_
    refine lv_icmp_ne (tgt := 735) hx hb dL_refuses_325 (by decide) (fun c5 => absurd (by decide) c5) (fun _ => ?_)
    refine lv_aload_n hx hb dL_refuses_328 rfl (lv_at hl 0 rfl) ?_
    refine lv_bipush (v := 8) hx hb dL_refuses_329 (by decide) ?_
    refine lv_iload_n hx hb dL_refuses_331 rfl (lv_at hl 3 rfl) ?_
    refine lv_iconst (v := 0) hx hb dL_refuses_332 (by decide) ?_
    refine lv_iconst (v := 0) hx hb dL_refuses_333 (by decide) ?_
    refine cl_o1 (rSP (A := blk b (b + 170)) (As := [.ref b, .int 8, .int ((-1 : Int32) - nI (n % 99)), .int 0, .int 0]) (rest := []) ⟨hx, hb, hml, hown, hts⟩ (c_call_8 l G b X ((-1 : Int32) - nI (n % 99)) 0 0 (-9999001) X hst (RX).ho (RX).hk (no_leave RX (Or.inl (m1_sub (j := n % 99) (by omega))))) (va_cwS 5 hts gL_refuses_L_call rfl rfl rfl (by decide +kernel) ⟨(Nat.le_of_ble_eq_true rfl), (Nat.le_of_ble_eq_true rfl)⟩) hP hO (thr_at hTh hS (fun q h => h)) hN rfl hl.1 (Nat.le_of_ble_eq_true rfl) dL_refuses_334 ⟨(Nat.le_of_ble_eq_true rfl), (Nat.le_of_ble_eq_true rfl)⟩) hS (fun q h => h) (fun H locs hP hS => ?_)
    refine lv_ldc (v := (-9999001)) hx hb hown (hts (.constant RL 15 (-9999001)) (by decide +kernel)) dL_refuses_337 ?_
    refine lv_icmp_ne (tgt := 735) hx hb dL_refuses_339 (by decide) (fun c6 => absurd (by decide) c6) (fun _ => ?_)
    refine lv_aload_n hx hb dL_refuses_342 rfl (lv_at hl 0 rfl) ?_
    refine lv_bipush (v := 9) hx hb dL_refuses_343 (by decide) ?_
    refine lv_iload_n hx hb dL_refuses_345 rfl (lv_at hl 3 rfl) ?_
    refine lv_iconst (v := 0) hx hb dL_refuses_346 (by decide) ?_
    refine lv_iconst (v := 0) hx hb dL_refuses_347 (by decide) ?_
    refine cl_o1 (rSP (A := blk b (b + 170)) (As := [.ref b, .int 9, .int ((-1 : Int32) - nI (n % 99)), .int 0, .int 0]) (rest := []) ⟨hx, hb, hml, hown, hts⟩ (c_call_9 l G b X ((-1 : Int32) - nI (n % 99)) 0 0 (-9999001) X hst (RX).ho (RX).hk (no_tow RX (Or.inl (m1_sub (j := n % 99) (by omega))))) (va_cwS 5 hts gL_refuses_L_call rfl rfl rfl (by decide +kernel) ⟨(Nat.le_of_ble_eq_true rfl), (Nat.le_of_ble_eq_true rfl)⟩) hP hO (thr_at hTh hS (fun q h => h)) hN rfl hl.1 (Nat.le_of_ble_eq_true rfl) dL_refuses_348 ⟨(Nat.le_of_ble_eq_true rfl), (Nat.le_of_ble_eq_true rfl)⟩) hS (fun q h => h) (fun H locs hP hS => ?_)
    refine lv_ldc (v := (-9999001)) hx hb hown (hts (.constant RL 15 (-9999001)) (by decide +kernel)) dL_refuses_351 ?_
    refine lv_icmp_ne (tgt := 735) hx hb dL_refuses_353 (by decide) (fun c7 => absurd (by decide) c7) (fun _ => ?_)
    refine lv_aload_n hx hb dL_refuses_356 rfl (lv_at hl 0 rfl) ?_
    refine lv_bipush (v := 10) hx hb dL_refuses_357 (by decide) ?_
    refine lv_iload_n hx hb dL_refuses_359 rfl (lv_at hl 3 rfl) ?_
    refine lv_iconst (v := 0) hx hb dL_refuses_360 (by decide) ?_
    refine lv_iconst (v := 0) hx hb dL_refuses_361 (by decide) ?_
    refine cl_o1 (rSP (A := blk b (b + 170)) (As := [.ref b, .int 10, .int ((-1 : Int32) - nI (n % 99)), .int 0, .int 0]) (rest := []) ⟨hx, hb, hml, hown, hts⟩ (c_call_10 l G b X ((-1 : Int32) - nI (n % 99)) 0 0 (-9999001) X hst (RX).ho (RX).hk (no_move RX 0 (Or.inl (m1_sub (j := n % 99) (by omega))))) (va_cwS 5 hts gL_refuses_L_call rfl rfl rfl (by decide +kernel) ⟨(Nat.le_of_ble_eq_true rfl), (Nat.le_of_ble_eq_true rfl)⟩) hP hO (thr_at hTh hS (fun q h => h)) hN rfl hl.1 (Nat.le_of_ble_eq_true rfl) dL_refuses_362 ⟨(Nat.le_of_ble_eq_true rfl), (Nat.le_of_ble_eq_true rfl)⟩) hS (fun q h => h) (fun H locs hP hS => ?_)
    refine lv_ldc (v := (-9999001)) hx hb hown (hts (.constant RL 15 (-9999001)) (by decide +kernel)) dL_refuses_365 ?_
    refine lv_icmp_ne (tgt := 735) hx hb dL_refuses_367 (by decide) (fun c8 => absurd (by decide) c8) (fun _ => ?_)
    refine lv_aload_n hx hb dL_refuses_370 rfl (lv_at hl 0 rfl) ?_
    refine lv_bipush (v := 10) hx hb dL_refuses_371 (by decide) ?_
    refine lv_iconst (v := 0) hx hb dL_refuses_373 (by decide) ?_
    refine lv_iload hx hb dL_refuses_374 (lv_at hl 4 rfl) ?_
    refine lv_iconst (v := 0) hx hb dL_refuses_376 (by decide) ?_
    refine cl_o1 (rSP (A := blk b (b + 170)) (As := [.ref b, .int 10, .int 0, .int ((-1 : Int32) - nI (n % 99)), .int 0]) (rest := []) ⟨hx, hb, hml, hown, hts⟩ (c_call_10 l G b X 0 ((-1 : Int32) - nI (n % 99)) 0 (-9999001) X hst (RX).ho (RX).hk (no_move_c RX (by omega) (Or.inl (m1_sub (j := n % 99) (by omega))))) (va_cwS 5 hts gL_refuses_L_call rfl rfl rfl (by decide +kernel) ⟨(Nat.le_of_ble_eq_true rfl), (Nat.le_of_ble_eq_true rfl)⟩) hP hO (thr_at hTh hS (fun q h => h)) hN rfl hl.1 (Nat.le_of_ble_eq_true rfl) dL_refuses_377 ⟨(Nat.le_of_ble_eq_true rfl), (Nat.le_of_ble_eq_true rfl)⟩) hS (fun q h => h) (fun H locs hP hS => ?_)
    refine lv_ldc (v := (-9999001)) hx hb hown (hts (.constant RL 15 (-9999001)) (by decide +kernel)) dL_refuses_380 ?_
    refine lv_icmp_ne (tgt := 735) hx hb dL_refuses_382 (by decide) (fun c9 => absurd (by decide) c9) (fun _ => ?_)
    refine lv_aload_n hx hb dL_refuses_385 rfl (lv_at hl 0 rfl) ?_
    refine lv_bipush (v := 11) hx hb dL_refuses_386 (by decide) ?_
    refine lv_iload_n hx hb dL_refuses_388 rfl (lv_at hl 1 rfl) ?_
    refine lv_iconst (v := 2) hx hb dL_refuses_389 (by decide) ?_
    refine irem_n (a := n) (b := 2) hx hb ⟨by omega, by decide, by decide⟩ dL_refuses_390 ?_
    refine lv_if_ne (tgt := 398) hx hb dL_refuses_391 (by decide) (fun c10 => absurd (congrArg nI (show (n % 2 : Nat) = 0 by omega)) c10) (fun _ => ?_)
    refine lv_iconst (v := 0) hx hb dL_refuses_394 (by decide) ?_
    refine lv_goto (tgt := 405) hx hb dL_refuses_395 (by decide) ?_
    refine lv_iconst (v := 0) hx hb dL_refuses_405 (by decide) ?_
    refine lv_iconst (v := 0) hx hb dL_refuses_406 (by decide) ?_
    refine cl_o1 (rSP (A := blk b (b + 170)) (As := [.ref b, .int 11, .int 0, .int 0, .int 0]) (rest := []) ⟨hx, hb, hml, hown, hts⟩ (c_call_11 l G b X 0 0 0 (-9999002) X hst (RX).ho (RX).hk (no_minutes (Or.inl (by decide)))) (va_cwS 5 hts gL_refuses_L_call rfl rfl rfl (by decide +kernel) ⟨(Nat.le_of_ble_eq_true rfl), (Nat.le_of_ble_eq_true rfl)⟩) hP hO (thr_at hTh hS (fun q h => h)) hN rfl hl.1 (Nat.le_of_ble_eq_true rfl) dL_refuses_407 ⟨(Nat.le_of_ble_eq_true rfl), (Nat.le_of_ble_eq_true rfl)⟩) hS (fun q h => h) (fun H locs hP hS => ?_)
    refine lv_ldc (v := (-9999002)) hx hb hown (hts (.constant RL 25 (-9999002)) (by decide +kernel)) dL_refuses_410 ?_
    refine lv_icmp_ne (tgt := 735) hx hb dL_refuses_412 (by decide) (fun c11 => absurd (by decide) c11) (fun _ => ?_)
    refine lv_aload_n hx hb dL_refuses_415 rfl (lv_at hl 0 rfl) ?_
    refine lv_bipush (v := 12) hx hb dL_refuses_416 (by decide) ?_
    refine lv_iconst (v := 0) hx hb dL_refuses_418 (by decide) ?_
    refine lv_iload_n hx hb dL_refuses_419 rfl (lv_at hl 1 rfl) ?_
    refine lv_iconst (v := 2) hx hb dL_refuses_420 (by decide) ?_
    refine irem_n (a := n) (b := 2) hx hb ⟨by omega, by decide, by decide⟩ dL_refuses_421 ?_
    refine lv_if_ne (tgt := 429) hx hb dL_refuses_422 (by decide) (fun c12 => absurd (congrArg nI (show (n % 2 : Nat) = 0 by omega)) c12) (fun _ => ?_)
    refine lv_iconst (v := -1) hx hb dL_refuses_425 (by decide) ?_
    refine lv_goto (tgt := 435) hx hb dL_refuses_426 (by decide) ?_
    refine lv_iconst (v := 0) hx hb dL_refuses_435 (by decide) ?_
    refine cl_o1 (rSP (A := blk b (b + 170)) (As := [.ref b, .int 12, .int 0, .int (-1), .int 0]) (rest := []) ⟨hx, hb, hml, hown, hts⟩ (c_call_12 l G b X 0 (-1) 0 (-9999002) X hst (RX).ho (RX).hk (no_set0 (Or.inl (by decide)))) (va_cwS 5 hts gL_refuses_L_call rfl rfl rfl (by decide +kernel) ⟨(Nat.le_of_ble_eq_true rfl), (Nat.le_of_ble_eq_true rfl)⟩) hP hO (thr_at hTh hS (fun q h => h)) hN rfl hl.1 (Nat.le_of_ble_eq_true rfl) dL_refuses_436 ⟨(Nat.le_of_ble_eq_true rfl), (Nat.le_of_ble_eq_true rfl)⟩) hS (fun q h => h) (fun H locs hP hS => ?_)
    refine lv_ldc (v := (-9999002)) hx hb hown (hts (.constant RL 25 (-9999002)) (by decide +kernel)) dL_refuses_439 ?_
    refine lv_icmp_ne (tgt := 735) hx hb dL_refuses_441 (by decide) (fun c13 => absurd (by decide) c13) (fun _ => ?_)
    refine lv_aload_n hx hb dL_refuses_444 rfl (lv_at hl 0 rfl) ?_
    refine lv_bipush (v := 12) hx hb dL_refuses_445 (by decide) ?_
    refine lv_iconst (v := 1) hx hb dL_refuses_447 (by decide) ?_
    refine lv_iload_n hx hb dL_refuses_448 rfl (lv_at hl 1 rfl) ?_
    refine lv_iconst (v := 2) hx hb dL_refuses_449 (by decide) ?_
    refine irem_n (a := n) (b := 2) hx hb ⟨by omega, by decide, by decide⟩ dL_refuses_450 ?_
    refine lv_if_ne (tgt := 458) hx hb dL_refuses_451 (by decide) (fun c14 => absurd (congrArg nI (show (n % 2 : Nat) = 0 by omega)) c14) (fun _ => ?_)
    refine lv_iconst (v := -1) hx hb dL_refuses_454 (by decide) ?_
    refine lv_goto (tgt := 464) hx hb dL_refuses_455 (by decide) ?_
    refine lv_iconst (v := 0) hx hb dL_refuses_464 (by decide) ?_
    refine cl_o1 (rSP (A := blk b (b + 170)) (As := [.ref b, .int 12, .int 1, .int (-1), .int 0]) (rest := []) ⟨hx, hb, hml, hown, hts⟩ (c_call_12 l G b X 1 (-1) 0 (-9999002) X hst (RX).ho (RX).hk (no_set1 (Or.inl (by decide)))) (va_cwS 5 hts gL_refuses_L_call rfl rfl rfl (by decide +kernel) ⟨(Nat.le_of_ble_eq_true rfl), (Nat.le_of_ble_eq_true rfl)⟩) hP hO (thr_at hTh hS (fun q h => h)) hN rfl hl.1 (Nat.le_of_ble_eq_true rfl) dL_refuses_465 ⟨(Nat.le_of_ble_eq_true rfl), (Nat.le_of_ble_eq_true rfl)⟩) hS (fun q h => h) (fun H locs hP hS => ?_)
    refine lv_ldc (v := (-9999002)) hx hb hown (hts (.constant RL 25 (-9999002)) (by decide +kernel)) dL_refuses_468 ?_
    refine lv_icmp_ne (tgt := 735) hx hb dL_refuses_470 (by decide) (fun c15 => absurd (by decide) c15) (fun _ => ?_)
    refine lv_aload_n hx hb dL_refuses_473 rfl (lv_at hl 0 rfl) ?_
    refine lv_bipush (v := 12) hx hb dL_refuses_474 (by decide) ?_
    refine lv_iconst (v := 2) hx hb dL_refuses_476 (by decide) ?_
    refine lv_iload_n hx hb dL_refuses_477 rfl (lv_at hl 1 rfl) ?_
    refine lv_iconst (v := 2) hx hb dL_refuses_478 (by decide) ?_
    refine irem_n (a := n) (b := 2) hx hb ⟨by omega, by decide, by decide⟩ dL_refuses_479 ?_
    refine lv_if_ne (tgt := 487) hx hb dL_refuses_480 (by decide) (fun c16 => absurd (congrArg nI (show (n % 2 : Nat) = 0 by omega)) c16) (fun _ => ?_)
    refine lv_iconst (v := 0) hx hb dL_refuses_483 (by decide) ?_
    refine lv_goto (tgt := 494) hx hb dL_refuses_484 (by decide) ?_
    refine lv_iconst (v := 0) hx hb dL_refuses_494 (by decide) ?_
    refine cl_o1 (rSP (A := blk b (b + 170)) (As := [.ref b, .int 12, .int 2, .int 0, .int 0]) (rest := []) ⟨hx, hb, hml, hown, hts⟩ (c_call_12 l G b X 2 0 0 (-9999002) X hst (RX).ho (RX).hk (no_set2 (Or.inl (by decide)))) (va_cwS 5 hts gL_refuses_L_call rfl rfl rfl (by decide +kernel) ⟨(Nat.le_of_ble_eq_true rfl), (Nat.le_of_ble_eq_true rfl)⟩) hP hO (thr_at hTh hS (fun q h => h)) hN rfl hl.1 (Nat.le_of_ble_eq_true rfl) dL_refuses_495 ⟨(Nat.le_of_ble_eq_true rfl), (Nat.le_of_ble_eq_true rfl)⟩) hS (fun q h => h) (fun H locs hP hS => ?_)
    refine lv_ldc (v := (-9999002)) hx hb hown (hts (.constant RL 25 (-9999002)) (by decide +kernel)) dL_refuses_498 ?_
    refine lv_icmp_ne (tgt := 735) hx hb dL_refuses_500 (by decide) (fun c17 => absurd (by decide) c17) (fun _ => ?_)
    refine lv_aload_n hx hb dL_refuses_503 rfl (lv_at hl 0 rfl) ?_
    refine lv_bipush (v := 12) hx hb dL_refuses_504 (by decide) ?_
    refine lv_iconst (v := 3) hx hb dL_refuses_506 (by decide) ?_
    refine lv_iload_n hx hb dL_refuses_507 rfl (lv_at hl 1 rfl) ?_
    refine lv_bipush (v := 9) hx hb dL_refuses_508 (by decide) ?_
    refine irem_n (a := n) (b := 9) hx hb ⟨by omega, by decide, by decide⟩ dL_refuses_510 ?_
    refine iadd_n (a := 3) (b := n % 9) hx hb dL_refuses_511 ?_
    refine lv_iconst (v := 1) hx hb dL_refuses_512 (by decide) ?_
    refine lv_iconst (v := 0) hx hb dL_refuses_513 (by decide) ?_
    refine cl_o1 (rSP (A := blk b (b + 170)) (As := [.ref b, .int 12, .int (nI (3 + (n % 9))), .int 1, .int 0]) (rest := []) ⟨hx, hb, hml, hown, hts⟩ (c_call_12 l G b X (nI (3 + (n % 9))) 1 0 (-9999002) X hst (RX).ho (RX).hk (no_set_w 1 (k := 3 + n % 9) (by omega) (by omega))) (va_cwS 5 hts gL_refuses_L_call rfl rfl rfl (by decide +kernel) ⟨(Nat.le_of_ble_eq_true rfl), (Nat.le_of_ble_eq_true rfl)⟩) hP hO (thr_at hTh hS (fun q h => h)) hN rfl hl.1 (Nat.le_of_ble_eq_true rfl) dL_refuses_514 ⟨(Nat.le_of_ble_eq_true rfl), (Nat.le_of_ble_eq_true rfl)⟩) hS (fun q h => h) (fun H locs hP hS => ?_)
    refine lv_ldc (v := (-9999002)) hx hb hown (hts (.constant RL 25 (-9999002)) (by decide +kernel)) dL_refuses_517 ?_
    refine lv_icmp_ne (tgt := 735) hx hb dL_refuses_519 (by decide) (fun c18 => absurd (by decide) c18) (fun _ => ?_)
    refine lv_aload_n hx hb dL_refuses_522 rfl (lv_at hl 0 rfl) ?_
    refine lv_bipush (v := 14) hx hb dL_refuses_523 (by decide) ?_
    refine lv_iload hx hb dL_refuses_525 (lv_at hl 6 rfl) ?_
    refine lv_iconst (v := 0) hx hb dL_refuses_527 (by decide) ?_
    refine lv_iconst (v := 0) hx hb dL_refuses_528 (by decide) ?_
    refine cl_o1 (rSP (A := blk b (b + 170)) (As := [.ref b, .int 14, .int ((1 : Int32) - nI (n % 9)), .int 0, .int 0]) (rest := []) ⟨hx, hb, hml, hown, hts⟩ (c_call_14 l G b X ((1 : Int32) - nI (n % 9)) 0 0 (-9999002) X hst (no_why (Or.inl (one_sub (j := n % 9) (by omega))))) (va_cwS 5 hts gL_refuses_L_call rfl rfl rfl (by decide +kernel) ⟨(Nat.le_of_ble_eq_true rfl), (Nat.le_of_ble_eq_true rfl)⟩) hP hO (thr_at hTh hS (fun q h => h)) hN rfl hl.1 (Nat.le_of_ble_eq_true rfl) dL_refuses_529 ⟨(Nat.le_of_ble_eq_true rfl), (Nat.le_of_ble_eq_true rfl)⟩) hS (fun q h => h) (fun H locs hP hS => ?_)
    refine lv_ldc (v := (-9999002)) hx hb hown (hts (.constant RL 25 (-9999002)) (by decide +kernel)) dL_refuses_532 ?_
    refine lv_icmp_ne (tgt := 735) hx hb dL_refuses_534 (by decide) (fun c19 => absurd (by decide) c19) (fun _ => ?_)
    refine lv_aload_n hx hb dL_refuses_537 rfl (lv_at hl 0 rfl) ?_
    refine lv_bipush (v := 15) hx hb dL_refuses_538 (by decide) ?_
    refine lv_iload hx hb dL_refuses_540 (lv_at hl 6 rfl) ?_
    refine lv_iconst (v := 0) hx hb dL_refuses_542 (by decide) ?_
    refine lv_iconst (v := 0) hx hb dL_refuses_543 (by decide) ?_
    refine cl_o1 (rSP (A := blk b (b + 170)) (As := [.ref b, .int 15, .int ((1 : Int32) - nI (n % 9)), .int 0, .int 0]) (rest := []) ⟨hx, hb, hml, hown, hts⟩ (c_call_15 l G b X ((1 : Int32) - nI (n % 9)) 0 0 (-9999002) X hst (no_place (Or.inl (one_sub (j := n % 9) (by omega))))) (va_cwS 5 hts gL_refuses_L_call rfl rfl rfl (by decide +kernel) ⟨(Nat.le_of_ble_eq_true rfl), (Nat.le_of_ble_eq_true rfl)⟩) hP hO (thr_at hTh hS (fun q h => h)) hN rfl hl.1 (Nat.le_of_ble_eq_true rfl) dL_refuses_544 ⟨(Nat.le_of_ble_eq_true rfl), (Nat.le_of_ble_eq_true rfl)⟩) hS (fun q h => h) (fun H locs hP hS => ?_)
    refine lv_ldc (v := (-9999002)) hx hb hown (hts (.constant RL 25 (-9999002)) (by decide +kernel)) dL_refuses_547 ?_
    refine lv_icmp_ne (tgt := 735) hx hb dL_refuses_549 (by decide) (fun c20 => absurd (by decide) c20) (fun _ => ?_)
    refine lv_aload_n hx hb dL_refuses_552 rfl (lv_at hl 0 rfl) ?_
    refine lv_bipush (v := 16) hx hb dL_refuses_553 (by decide) ?_
    refine lv_iload hx hb dL_refuses_555 (lv_at hl 6 rfl) ?_
    refine lv_iconst (v := 0) hx hb dL_refuses_557 (by decide) ?_
    refine lv_iconst (v := 0) hx hb dL_refuses_558 (by decide) ?_
    refine cl_o1 (rSP (A := blk b (b + 170)) (As := [.ref b, .int 16, .int ((1 : Int32) - nI (n % 9)), .int 0, .int 0]) (rest := []) ⟨hx, hb, hml, hown, hts⟩ (c_call_16 l G b X ((1 : Int32) - nI (n % 9)) 0 0 (-9999002) X hst (no_fits 0 (Or.inl (one_sub (j := n % 9) (by omega))))) (va_cwS 5 hts gL_refuses_L_call rfl rfl rfl (by decide +kernel) ⟨(Nat.le_of_ble_eq_true rfl), (Nat.le_of_ble_eq_true rfl)⟩) hP hO (thr_at hTh hS (fun q h => h)) hN rfl hl.1 (Nat.le_of_ble_eq_true rfl) dL_refuses_559 ⟨(Nat.le_of_ble_eq_true rfl), (Nat.le_of_ble_eq_true rfl)⟩) hS (fun q h => h) (fun H locs hP hS => ?_)
    refine lv_ldc (v := (-9999002)) hx hb hown (hts (.constant RL 25 (-9999002)) (by decide +kernel)) dL_refuses_562 ?_
    refine lv_icmp_ne (tgt := 735) hx hb dL_refuses_564 (by decide) (fun c21 => absurd (by decide) c21) (fun _ => ?_)
    refine lv_aload_n hx hb dL_refuses_567 rfl (lv_at hl 0 rfl) ?_
    refine lv_bipush (v := 16) hx hb dL_refuses_568 (by decide) ?_
    refine lv_iconst (v := 5) hx hb dL_refuses_570 (by decide) ?_
    refine lv_iconst (v := 2) hx hb dL_refuses_571 (by decide) ?_
    refine lv_iload_n hx hb dL_refuses_572 rfl (lv_at hl 1 rfl) ?_
    refine lv_bipush (v := 9) hx hb dL_refuses_573 (by decide) ?_
    refine irem_n (a := n) (b := 9) hx hb ⟨by omega, by decide, by decide⟩ dL_refuses_575 ?_
    refine iadd_n (a := 2) (b := n % 9) hx hb dL_refuses_576 ?_
    refine lv_iconst (v := 0) hx hb dL_refuses_577 (by decide) ?_
    refine cl_o1 (rSP (A := blk b (b + 170)) (As := [.ref b, .int 16, .int 5, .int (nI (2 + (n % 9))), .int 0]) (rest := []) ⟨hx, hb, hml, hown, hts⟩ (c_call_16 l G b X 5 (nI (2 + (n % 9))) 0 (-9999002) X hst (no_fits_w (k := 2 + n % 9) (by omega) (by omega))) (va_cwS 5 hts gL_refuses_L_call rfl rfl rfl (by decide +kernel) ⟨(Nat.le_of_ble_eq_true rfl), (Nat.le_of_ble_eq_true rfl)⟩) hP hO (thr_at hTh hS (fun q h => h)) hN rfl hl.1 (Nat.le_of_ble_eq_true rfl) dL_refuses_578 ⟨(Nat.le_of_ble_eq_true rfl), (Nat.le_of_ble_eq_true rfl)⟩) hS (fun q h => h) (fun H locs hP hS => ?_)
    refine lv_ldc (v := (-9999002)) hx hb hown (hts (.constant RL 25 (-9999002)) (by decide +kernel)) dL_refuses_581 ?_
    refine lv_icmp_ne (tgt := 735) hx hb dL_refuses_583 (by decide) (fun c22 => absurd (by decide) c22) (fun _ => ?_)
    refine lv_aload_n hx hb dL_refuses_586 rfl (lv_at hl 0 rfl) ?_
    refine lv_bipush (v := 17) hx hb dL_refuses_587 (by decide) ?_
    refine lv_iload hx hb dL_refuses_589 (lv_at hl 6 rfl) ?_
    refine lv_iconst (v := 0) hx hb dL_refuses_591 (by decide) ?_
    refine lv_iconst (v := 0) hx hb dL_refuses_592 (by decide) ?_
    refine cl_o1 (rSP (A := blk b (b + 170)) (As := [.ref b, .int 17, .int ((1 : Int32) - nI (n % 9)), .int 0, .int 0]) (rest := []) ⟨hx, hb, hml, hown, hts⟩ (c_call_17 l G b X ((1 : Int32) - nI (n % 9)) 0 0 (-9999002) X hst (no_gapIn (Or.inl (one_sub (j := n % 9) (by omega))))) (va_cwS 5 hts gL_refuses_L_call rfl rfl rfl (by decide +kernel) ⟨(Nat.le_of_ble_eq_true rfl), (Nat.le_of_ble_eq_true rfl)⟩) hP hO (thr_at hTh hS (fun q h => h)) hN rfl hl.1 (Nat.le_of_ble_eq_true rfl) dL_refuses_593 ⟨(Nat.le_of_ble_eq_true rfl), (Nat.le_of_ble_eq_true rfl)⟩) hS (fun q h => h) (fun H locs hP hS => ?_)
    refine lv_ldc (v := (-9999002)) hx hb hown (hts (.constant RL 25 (-9999002)) (by decide +kernel)) dL_refuses_596 ?_
    refine lv_icmp_ne (tgt := 735) hx hb dL_refuses_598 (by decide) (fun c23 => absurd (by decide) c23) (fun _ => ?_)
    refine lv_aload_n hx hb dL_refuses_601 rfl (lv_at hl 0 rfl) ?_
    refine lv_bipush (v := 18) hx hb dL_refuses_602 (by decide) ?_
    refine lv_iload hx hb dL_refuses_604 (lv_at hl 6 rfl) ?_
    refine lv_iconst (v := 0) hx hb dL_refuses_606 (by decide) ?_
    refine lv_iconst (v := 0) hx hb dL_refuses_607 (by decide) ?_
    refine cl_o1 (rSP (A := blk b (b + 170)) (As := [.ref b, .int 18, .int ((1 : Int32) - nI (n % 9)), .int 0, .int 0]) (rest := []) ⟨hx, hb, hml, hown, hts⟩ (c_call_18 l G b X ((1 : Int32) - nI (n % 9)) 0 0 (-9999002) X hst (no_mover 0 (Or.inl (one_sub (j := n % 9) (by omega))))) (va_cwS 5 hts gL_refuses_L_call rfl rfl rfl (by decide +kernel) ⟨(Nat.le_of_ble_eq_true rfl), (Nat.le_of_ble_eq_true rfl)⟩) hP hO (thr_at hTh hS (fun q h => h)) hN rfl hl.1 (Nat.le_of_ble_eq_true rfl) dL_refuses_608 ⟨(Nat.le_of_ble_eq_true rfl), (Nat.le_of_ble_eq_true rfl)⟩) hS (fun q h => h) (fun H locs hP hS => ?_)
    refine lv_ldc (v := (-9999002)) hx hb hown (hts (.constant RL 25 (-9999002)) (by decide +kernel)) dL_refuses_611 ?_
    refine lv_icmp_ne (tgt := 735) hx hb dL_refuses_613 (by decide) (fun c24 => absurd (by decide) c24) (fun _ => ?_)
    refine lv_aload_n hx hb dL_refuses_616 rfl (lv_at hl 0 rfl) ?_
    refine lv_bipush (v := 18) hx hb dL_refuses_617 (by decide) ?_
    refine lv_iconst (v := 5) hx hb dL_refuses_619 (by decide) ?_
    refine lv_iconst (v := 2) hx hb dL_refuses_620 (by decide) ?_
    refine lv_iload_n hx hb dL_refuses_621 rfl (lv_at hl 1 rfl) ?_
    refine lv_bipush (v := 9) hx hb dL_refuses_622 (by decide) ?_
    refine irem_n (a := n) (b := 9) hx hb ⟨by omega, by decide, by decide⟩ dL_refuses_624 ?_
    refine iadd_n (a := 2) (b := n % 9) hx hb dL_refuses_625 ?_
    refine lv_iconst (v := 0) hx hb dL_refuses_626 (by decide) ?_
    refine cl_o1 (rSP (A := blk b (b + 170)) (As := [.ref b, .int 18, .int 5, .int (nI (2 + (n % 9))), .int 0]) (rest := []) ⟨hx, hb, hml, hown, hts⟩ (c_call_18 l G b X 5 (nI (2 + (n % 9))) 0 (-9999002) X hst (no_mover_w (k := 2 + n % 9) (by omega) (by omega))) (va_cwS 5 hts gL_refuses_L_call rfl rfl rfl (by decide +kernel) ⟨(Nat.le_of_ble_eq_true rfl), (Nat.le_of_ble_eq_true rfl)⟩) hP hO (thr_at hTh hS (fun q h => h)) hN rfl hl.1 (Nat.le_of_ble_eq_true rfl) dL_refuses_627 ⟨(Nat.le_of_ble_eq_true rfl), (Nat.le_of_ble_eq_true rfl)⟩) hS (fun q h => h) (fun H locs hP hS => ?_)
    refine lv_ldc (v := (-9999002)) hx hb hown (hts (.constant RL 25 (-9999002)) (by decide +kernel)) dL_refuses_630 ?_
    refine lv_icmp_ne (tgt := 735) hx hb dL_refuses_632 (by decide) (fun c25 => absurd (by decide) c25) (fun _ => ?_)
    refine lv_aload_n hx hb dL_refuses_635 rfl (lv_at hl 0 rfl) ?_
    refine lv_iload hx hb dL_refuses_636 (lv_at hl 6 rfl) ?_
    refine lv_iload_n hx hb dL_refuses_638 rfl (lv_at hl 1 rfl) ?_
    refine lv_i2l (v := (nI n).toInt64) hx hb dL_refuses_639 rfl ?_
    refine cl_w1 (xSW (A := blk b (b + 170)) (As := [.ref b, .int ((1 : Int32) - nI (n % 9)), .long ((nI n).toInt64)]) (rest := []) ⟨hx, hb, hml, hown, hts⟩ (w_L_jams l G b X ((1 : Int32) - nI (n % 9)) ((nI n).toInt64) (-9999002) X hst (no_jam _ (Or.inl (one_sub (j := n % 9) (by omega))))) (vx_cwSW 3 hts gL_refuses_L_jams rfl rfl rfl (by decide +kernel) ⟨(Nat.le_of_ble_eq_true rfl), (Nat.le_of_ble_eq_true rfl)⟩) hP hO (thr_at hTh hS (fun q h => h)) hN rfl hl.1 (Nat.le_of_ble_eq_true rfl) dL_refuses_640 ⟨(Nat.le_of_ble_eq_true rfl), (Nat.le_of_ble_eq_true rfl)⟩) hS (fun q h => h) (fun H locs hP hS => ?_)
    refine lv_ldc (v := (-9999002)) hx hb hown (hts (.constant RL 25 (-9999002)) (by decide +kernel)) dL_refuses_643 ?_
    refine lv_icmp_ne (tgt := 735) hx hb dL_refuses_645 (by decide) (fun c26 => absurd (by decide) c26) (fun _ => ?_)
    refine lv_aload_n hx hb dL_refuses_648 rfl (lv_at hl 0 rfl) ?_
    refine lv_bipush (v := 19) hx hb dL_refuses_649 (by decide) ?_
    refine lv_iconst (v := 2) hx hb dL_refuses_651 (by decide) ?_
    refine lv_iload_n hx hb dL_refuses_652 rfl (lv_at hl 1 rfl) ?_
    refine lv_bipush (v := 50) hx hb dL_refuses_653 (by decide) ?_
    refine irem_n (a := n) (b := 50) hx hb ⟨by omega, by decide, by decide⟩ dL_refuses_655 ?_
    refine iadd_n (a := 2) (b := n % 50) hx hb dL_refuses_656 ?_
    refine lv_iconst (v := 0) hx hb dL_refuses_657 (by decide) ?_
    refine lv_iconst (v := 0) hx hb dL_refuses_658 (by decide) ?_
    refine cl_o1 (rSP (A := blk b (b + 170)) (As := [.ref b, .int 19, .int (nI (2 + (n % 50))), .int 0, .int 0]) (rest := []) ⟨hx, hb, hml, hown, hts⟩ (c_call_19 l G b X (nI (2 + (n % 50))) 0 0 (-9999001) X hst (no_save (k := 2 + n % 50) (by omega) (by omega))) (va_cwS 5 hts gL_refuses_L_call rfl rfl rfl (by decide +kernel) ⟨(Nat.le_of_ble_eq_true rfl), (Nat.le_of_ble_eq_true rfl)⟩) hP hO (thr_at hTh hS (fun q h => h)) hN rfl hl.1 (Nat.le_of_ble_eq_true rfl) dL_refuses_659 ⟨(Nat.le_of_ble_eq_true rfl), (Nat.le_of_ble_eq_true rfl)⟩) hS (fun q h => h) (fun H locs hP hS => ?_)
    refine lv_ldc (v := (-9999001)) hx hb hown (hts (.constant RL 15 (-9999001)) (by decide +kernel)) dL_refuses_662 ?_
    refine lv_icmp_ne (tgt := 735) hx hb dL_refuses_664 (by decide) (fun c27 => absurd (by decide) c27) (fun _ => ?_)
    refine lv_aload_n hx hb dL_refuses_667 rfl (lv_at hl 0 rfl) ?_
    refine lv_bipush (v := 20) hx hb dL_refuses_668 (by decide) ?_
    refine lv_iconst (v := -1) hx hb dL_refuses_670 (by decide) ?_
    refine lv_iload_n hx hb dL_refuses_671 rfl (lv_at hl 1 rfl) ?_
    refine lv_bipush (v := 9) hx hb dL_refuses_672 (by decide) ?_
    refine irem_n (a := n) (b := 9) hx hb ⟨by omega, by decide, by decide⟩ dL_refuses_674 ?_
    refine lv_isub hx hb dL_refuses_675 ?_
    refine lv_iconst (v := 0) hx hb dL_refuses_676 (by decide) ?_
    refine lv_iconst (v := 0) hx hb dL_refuses_677 (by decide) ?_
    refine cl_o1 (rSP (A := blk b (b + 170)) (As := [.ref b, .int 20, .int ((-1 : Int32) - (nI (n % 9))), .int 0, .int 0]) (rest := []) ⟨hx, hb, hml, hown, hts⟩ (c_call_20 l G b X ((-1 : Int32) - (nI (n % 9))) 0 0 (-9999001) X hst (no_restore (m1_sub (j := n % 9) (by omega)))) (va_cwS 5 hts gL_refuses_L_call rfl rfl rfl (by decide +kernel) ⟨(Nat.le_of_ble_eq_true rfl), (Nat.le_of_ble_eq_true rfl)⟩) hP hO (thr_at hTh hS (fun q h => h)) hN rfl hl.1 (Nat.le_of_ble_eq_true rfl) dL_refuses_678 ⟨(Nat.le_of_ble_eq_true rfl), (Nat.le_of_ble_eq_true rfl)⟩) hS (fun q h => h) (fun H locs hP hS => ?_)
    refine lv_ldc (v := (-9999001)) hx hb hown (hts (.constant RL 15 (-9999001)) (by decide +kernel)) dL_refuses_681 ?_
    refine lv_icmp_ne (tgt := 735) hx hb dL_refuses_683 (by decide) (fun c28 => absurd (by decide) c28) (fun _ => ?_)
    refine lv_aload_n hx hb dL_refuses_686 rfl (lv_at hl 0 rfl) ?_
    refine lv_iconst (v := 0) hx hb dL_refuses_687 (by decide) ?_
    refine lv_lconst (v := 0) hx hb dL_refuses_688 (by decide) ?_
    refine cl_w1 (xSW (A := blk b (b + 170)) (As := [.ref b, .int 0, .long 0]) (rest := []) ⟨hx, hb, hml, hown, hts⟩ (w_L_doScript l G b X 0 0 (-9999002) X hst no_script0) (vx_cwSW 3 hts gL_refuses_L_doScript rfl rfl rfl (by decide +kernel) ⟨(Nat.le_of_ble_eq_true rfl), (Nat.le_of_ble_eq_true rfl)⟩) hP hO (thr_at hTh hS (fun q h => h)) hN rfl hl.1 (Nat.le_of_ble_eq_true rfl) dL_refuses_689 ⟨(Nat.le_of_ble_eq_true rfl), (Nat.le_of_ble_eq_true rfl)⟩) hS (fun q h => h) (fun H locs hP hS => ?_)
    refine lv_ldc (v := (-9999002)) hx hb hown (hts (.constant RL 25 (-9999002)) (by decide +kernel)) dL_refuses_692 ?_
    refine lv_icmp_ne (tgt := 735) hx hb dL_refuses_694 (by decide) (fun c29 => absurd (by decide) c29) (fun _ => ?_)
    refine lv_aload_n hx hb dL_refuses_697 rfl (lv_at hl 0 rfl) ?_
    refine lv_iconst (v := 1) hx hb dL_refuses_698 (by decide) ?_
    refine lv_ldc2 (v := 1000000) hx hb hown (hts (.constantLong RL 184 (1000000)) (by decide +kernel)) dL_refuses_699 ?_
    refine lv_iload_n hx hb dL_refuses_702 rfl (lv_at hl 1 rfl) ?_
    refine lv_i2l (v := (nI n).toInt64) hx hb dL_refuses_703 rfl ?_
    refine lv_ladd hx hb dL_refuses_704 ?_
    refine cl_w1 (xSW (A := blk b (b + 170)) (As := [.ref b, .int 1, .long (1000000 + ((nI n).toInt64))]) (rest := []) ⟨hx, hb, hml, hown, hts⟩ (w_L_doScript l G b X 1 (1000000 + ((nI n).toInt64)) (-9999002) X hst (no_script1 (n := n) (by omega))) (vx_cwSW 3 hts gL_refuses_L_doScript rfl rfl rfl (by decide +kernel) ⟨(Nat.le_of_ble_eq_true rfl), (Nat.le_of_ble_eq_true rfl)⟩) hP hO (thr_at hTh hS (fun q h => h)) hN rfl hl.1 (Nat.le_of_ble_eq_true rfl) dL_refuses_705 ⟨(Nat.le_of_ble_eq_true rfl), (Nat.le_of_ble_eq_true rfl)⟩) hS (fun q h => h) (fun H locs hP hS => ?_)
    refine lv_ldc (v := (-9999002)) hx hb hown (hts (.constant RL 25 (-9999002)) (by decide +kernel)) dL_refuses_708 ?_
    refine lv_icmp_ne (tgt := 735) hx hb dL_refuses_710 (by decide) (fun c30 => absurd (by decide) c30) (fun _ => ?_)
    refine lv_aload_n hx hb dL_refuses_713 rfl (lv_at hl 0 rfl) ?_
    refine lv_iload_n hx hb dL_refuses_714 rfl (lv_at hl 1 rfl) ?_
    refine lv_i2l (v := (nI n).toInt64) hx hb dL_refuses_715 rfl ?_
    refine lv_bipush (v := 61) hx hb dL_refuses_716 (by decide) ?_
    refine lv_iload_n hx hb dL_refuses_718 rfl (lv_at hl 1 rfl) ?_
    refine lv_bipush (v := 9) hx hb dL_refuses_719 (by decide) ?_
    refine irem_n (a := n) (b := 9) hx hb ⟨by omega, by decide, by decide⟩ dL_refuses_721 ?_
    refine iadd_n (a := 61) (b := n % 9) hx hb dL_refuses_722 ?_
    refine cl_w1 (xSW (A := blk b (b + 170)) (As := [.ref b, .long ((nI n).toInt64), .int (nI (61 + (n % 9)))]) (rest := []) ⟨hx, hb, hml, hown, hts⟩ (w_L_doSimulate l G b X ((nI n).toInt64) (nI (61 + (n % 9))) (-9999002) X hst (no_sim _ (k := 61 + n % 9) (by omega) (by omega))) (vx_cwSW 3 hts gL_refuses_L_doSimulate rfl rfl rfl (by decide +kernel) ⟨(Nat.le_of_ble_eq_true rfl), (Nat.le_of_ble_eq_true rfl)⟩) hP hO (thr_at hTh hS (fun q h => h)) hN rfl hl.1 (Nat.le_of_ble_eq_true rfl) dL_refuses_723 ⟨(Nat.le_of_ble_eq_true rfl), (Nat.le_of_ble_eq_true rfl)⟩) hS (fun q h => h) (fun H locs hP hS => ?_)
    refine lv_ldc (v := (-9999002)) hx hb hown (hts (.constant RL 25 (-9999002)) (by decide +kernel)) dL_refuses_726 ?_
    refine lv_icmp_ne (tgt := 735) hx hb dL_refuses_728 (by decide) (fun c31 => absurd (by decide) c31) (fun _ => ?_)
    refine lv_iconst (v := 1) hx hb dL_refuses_731 (by decide) ?_
    refine lv_goto (tgt := 736) hx hb dL_refuses_732 (by decide) ?_
    refine lv_istore (lv' := [(7, .int 1), (0, .ref b), (1, .int (nI n)), (2, .int (nI (gm (mN M)))), (3, .int ((-1 : Int32) - nI (n % 99))), (4, .int ((-1 : Int32) - nI (n % 99))), (5, .int (nI (f_X7_gaps (mN M)))), (6, .int ((1 : Int32) - nI (n % 9)))]) hx hb dL_refuses_736 hl (by decide) rfl (fun ls hl => ?_)
    refine lv_aload_n hx hb dL_refuses_738 rfl (lv_at hl 1 rfl) ?_
    refine lv_iconst (v := 3) hx hb dL_refuses_739 (by decide) ?_
    refine lv_iconst (v := 0) hx hb dL_refuses_740 (by decide) ?_
    refine lv_iconst (v := 3) hx hb dL_refuses_741 (by decide) ?_
    refine lv_iconst (v := 0) hx hb dL_refuses_742 (by decide) ?_
    refine cl_o1 (rSP (A := blk b (b + 170)) (As := [.ref b, .int 3, .int 0, .int 3, .int 0]) (rest := []) ⟨hx, hb, hml, hown, hts⟩ (c_call_3 l G b X 0 3 0 (f_X7_of (mN M) 0 3) X hst (rd_car3 RX (c := 0) (by omega))) (va_cwS 5 hts gL_refuses_L_call rfl rfl rfl (by decide +kernel) ⟨(Nat.le_of_ble_eq_true rfl), (Nat.le_of_ble_eq_true rfl)⟩) hP hO (thr_at hTh hS (fun q h => h)) hN rfl hl.1 (Nat.le_of_ble_eq_true rfl) dL_refuses_743 ⟨(Nat.le_of_ble_eq_true rfl), (Nat.le_of_ble_eq_true rfl)⟩) hS (fun q h => h) (fun H locs hP hS => ?_)
    refine lv_istore (lv' := [(8, .int (f_X7_of (mN M) 0 3)), (7, .int 1), (0, .ref b), (1, .int (nI n)), (2, .int (nI (gm (mN M)))), (3, .int ((-1 : Int32) - nI (n % 99))), (4, .int ((-1 : Int32) - nI (n % 99))), (5, .int (nI (f_X7_gaps (mN M)))), (6, .int ((1 : Int32) - nI (n % 9)))]) hx hb dL_refuses_746 hl (by decide) rfl (fun ls hl => ?_)
    refine lv_iload hx hb dL_refuses_748 (lv_at hl 1 rfl) ?_
    refine lv_if_eq (tgt := 855) hx hb dL_refuses_750 (by decide) (fun c32 => absurd c32 (by decide)) (fun _ => ?_)
    refine lv_iload_n hx hb dL_refuses_753 rfl (lv_at hl 4 rfl) ?_
    refine lv_bipush (v := 40) hx hb dL_refuses_754 (by decide) ?_
    refine lv_icmp_lt (tgt := 773) hx hb dL_refuses_756 (by decide) (fun c33 => ?_) (fun c33 => ?_)
    · have c33f : gm (mN M) < 40 := (nI_ltI (a := gm (mN M)) (b := 40) (by omega) (by omega)).mp c33
      refine lv_iload hx hb dL_refuses_773 (lv_at hl 0 rfl) ?_
      refine lv_iconst (v := -1) hx hb dL_refuses_775 (by decide) ?_
      refine lv_icmp_ne (tgt := 824) hx hb dL_refuses_776 (by decide) (fun c34 => ?_) (fun c34 => ?_)
      · have hpk := at_pk RX.nw.2 (c := 0) (by omega) c34
        obtain ⟨ep0, -, h80⟩ := RX.nw.2.ri.X (c := 0) (by omega) hpk
        have hj0 := (RX.nw.2.ri.J (c := 0) (by omega)).2
        rw [ep0] at hl
        refine lv_aload_n hx hb dL_refuses_824 rfl (lv_at hl 2 rfl) ?_
        refine lv_iload hx hb dL_refuses_825 (lv_at hl 0 rfl) ?_
        refine lv_iconst (v := 1) hx hb dL_refuses_827 (by decide) ?_
        refine cl_w1 (xSW (A := blk b (b + 170)) (As := [.ref b, .int (nI (px (mN M) 0)), .int 1]) (rest := []) ⟨hx, hb, hml, hown, hts⟩ (w_L_hydrants l G b X (nI (px (mN M) 0)) 1 (-9999003) X hst (RX).ho (RX).hk (no_hydrant_c RX (c := 0) (x := px (mN M) 0) (by omega) (by omega) (RX.nw.2.pc 0 (by omega) hpk _ ⟨Nat.le_refl _, by omega⟩))) (vx_cwSW 3 hts gL_refuses_L_hydrants rfl rfl rfl (by decide +kernel) ⟨(Nat.le_of_ble_eq_true rfl), (Nat.le_of_ble_eq_true rfl)⟩) hP hO (thr_at hTh hS (fun q h => h)) hN rfl hl.1 (Nat.le_of_ble_eq_true rfl) dL_refuses_828 ⟨(Nat.le_of_ble_eq_true rfl), (Nat.le_of_ble_eq_true rfl)⟩) hS (fun q h => h) (fun H locs hP hS => ?_)
        refine lv_ldc (v := (-9999003)) hx hb hown (hts (.constant RL 18 (-9999003)) (by decide +kernel)) dL_refuses_831 ?_
        refine lv_icmp_ne (tgt := 855) hx hb dL_refuses_833 (by decide) (fun c35 => absurd (by decide) c35) (fun _ => ?_)
        refine lv_aload_n hx hb dL_refuses_836 rfl (lv_at hl 2 rfl) ?_
        refine lv_bipush (v := 10) hx hb dL_refuses_837 (by decide) ?_
        refine lv_iconst (v := 0) hx hb dL_refuses_839 (by decide) ?_
        refine lv_bipush (v := 79) hx hb dL_refuses_840 (by decide) ?_
        refine lv_iconst (v := 0) hx hb dL_refuses_842 (by decide) ?_
        refine cl_o1 (rSP (A := blk b (b + 170)) (As := [.ref b, .int 10, .int 0, .int 79, .int 0]) (rest := []) ⟨hx, hb, hml, hown, hts⟩ (c_call_10 l G b X 0 79 0 (-9999003) X hst (RX).ho (RX).hk (no_move_s RX (c := 0) (x := 79) (by omega) (by omega) (move_79 RX.nw.2 (by omega)))) (va_cwS 5 hts gL_refuses_L_call rfl rfl rfl (by decide +kernel) ⟨(Nat.le_of_ble_eq_true rfl), (Nat.le_of_ble_eq_true rfl)⟩) hP hO (thr_at hTh hS (fun q h => h)) hN rfl hl.1 (Nat.le_of_ble_eq_true rfl) dL_refuses_843 ⟨(Nat.le_of_ble_eq_true rfl), (Nat.le_of_ble_eq_true rfl)⟩) hS (fun q h => h) (fun H locs hP hS => ?_)
        refine lv_ldc (v := (-9999003)) hx hb hown (hts (.constant RL 18 (-9999003)) (by decide +kernel)) dL_refuses_846 ?_
        refine lv_icmp_ne (tgt := 855) hx hb dL_refuses_848 (by decide) (fun c36 => absurd (by decide) c36) (fun _ => ?_)
        refine lv_iconst (v := 1) hx hb dL_refuses_851 (by decide) ?_
        refine lv_goto (tgt := 856) hx hb dL_refuses_852 (by decide) ?_
        exact W.widen (k := 50) (n := 300) (Nat.le_of_ble_eq_true rfl) (Nat.le_of_ble_eq_true rfl) (W.zret (ty := .boolean) hx hb hr rfl (fun t ht hW => ⟨rfl, by rw [ht]; exact hP, hS.F ht⟩) hS.2.2 dL_refuses_856)
      · have hnp : ¬ f_X7_of (mN M) 0 2 = 0 := fun z => by
          rw [(RX.nw.2.ri.X (c := 0) (by omega) z).1] at c34
          exact nI_m1 (by have := (RX.nw.2.ri.X (c := 0) (by omega) z).2.2; omega) c34
        refine lv_aload_n hx hb dL_refuses_779 rfl (lv_at hl 2 rfl) ?_
        refine lv_bipush (v := 8) hx hb dL_refuses_780 (by decide) ?_
        refine lv_iconst (v := 0) hx hb dL_refuses_782 (by decide) ?_
        refine lv_iconst (v := 0) hx hb dL_refuses_783 (by decide) ?_
        refine lv_iconst (v := 0) hx hb dL_refuses_784 (by decide) ?_
        refine cl_o1 (rSP (A := blk b (b + 170)) (As := [.ref b, .int 8, .int 0, .int 0, .int 0]) (rest := []) ⟨hx, hb, hml, hown, hts⟩ (c_call_8 l G b X 0 0 0 (-9999003) X hst (RX).ho (RX).hk (no_leave_p RX (c := 0) (by omega) hnp)) (va_cwS 5 hts gL_refuses_L_call rfl rfl rfl (by decide +kernel) ⟨(Nat.le_of_ble_eq_true rfl), (Nat.le_of_ble_eq_true rfl)⟩) hP hO (thr_at hTh hS (fun q h => h)) hN rfl hl.1 (Nat.le_of_ble_eq_true rfl) dL_refuses_785 ⟨(Nat.le_of_ble_eq_true rfl), (Nat.le_of_ble_eq_true rfl)⟩) hS (fun q h => h) (fun H locs hP hS => ?_)
        refine lv_ldc (v := (-9999003)) hx hb hown (hts (.constant RL 18 (-9999003)) (by decide +kernel)) dL_refuses_788 ?_
        refine lv_icmp_ne (tgt := 855) hx hb dL_refuses_790 (by decide) (fun c37 => absurd (by decide) c37) (fun _ => ?_)
        refine lv_aload_n hx hb dL_refuses_793 rfl (lv_at hl 2 rfl) ?_
        refine lv_bipush (v := 9) hx hb dL_refuses_794 (by decide) ?_
        refine lv_iconst (v := 0) hx hb dL_refuses_796 (by decide) ?_
        refine lv_iconst (v := 0) hx hb dL_refuses_797 (by decide) ?_
        refine lv_iconst (v := 0) hx hb dL_refuses_798 (by decide) ?_
        refine cl_o1 (rSP (A := blk b (b + 170)) (As := [.ref b, .int 9, .int 0, .int 0, .int 0]) (rest := []) ⟨hx, hb, hml, hown, hts⟩ (c_call_9 l G b X 0 0 0 (-9999003) X hst (RX).ho (RX).hk (no_tow_p RX (c := 0) (by omega) hnp)) (va_cwS 5 hts gL_refuses_L_call rfl rfl rfl (by decide +kernel) ⟨(Nat.le_of_ble_eq_true rfl), (Nat.le_of_ble_eq_true rfl)⟩) hP hO (thr_at hTh hS (fun q h => h)) hN rfl hl.1 (Nat.le_of_ble_eq_true rfl) dL_refuses_799 ⟨(Nat.le_of_ble_eq_true rfl), (Nat.le_of_ble_eq_true rfl)⟩) hS (fun q h => h) (fun H locs hP hS => ?_)
        refine lv_ldc (v := (-9999003)) hx hb hown (hts (.constant RL 18 (-9999003)) (by decide +kernel)) dL_refuses_802 ?_
        refine lv_icmp_ne (tgt := 855) hx hb dL_refuses_804 (by decide) (fun c38 => absurd (by decide) c38) (fun _ => ?_)
        refine lv_aload_n hx hb dL_refuses_807 rfl (lv_at hl 2 rfl) ?_
        refine lv_bipush (v := 10) hx hb dL_refuses_808 (by decide) ?_
        refine lv_iconst (v := 0) hx hb dL_refuses_810 (by decide) ?_
        refine lv_iconst (v := 0) hx hb dL_refuses_811 (by decide) ?_
        refine lv_iconst (v := 0) hx hb dL_refuses_812 (by decide) ?_
        refine cl_o1 (rSP (A := blk b (b + 170)) (As := [.ref b, .int 10, .int 0, .int 0, .int 0]) (rest := []) ⟨hx, hb, hml, hown, hts⟩ (c_call_10 l G b X 0 0 0 (-9999003) X hst (RX).ho (RX).hk (no_move_s RX (c := 0) (x := 0) (by omega) (by omega) (move_np RX.nw.2.ri (by omega) hnp))) (va_cwS 5 hts gL_refuses_L_call rfl rfl rfl (by decide +kernel) ⟨(Nat.le_of_ble_eq_true rfl), (Nat.le_of_ble_eq_true rfl)⟩) hP hO (thr_at hTh hS (fun q h => h)) hN rfl hl.1 (Nat.le_of_ble_eq_true rfl) dL_refuses_813 ⟨(Nat.le_of_ble_eq_true rfl), (Nat.le_of_ble_eq_true rfl)⟩) hS (fun q h => h) (fun H locs hP hS => ?_)
        refine lv_ldc (v := (-9999003)) hx hb hown (hts (.constant RL 18 (-9999003)) (by decide +kernel)) dL_refuses_816 ?_
        refine lv_icmp_ne (tgt := 855) hx hb dL_refuses_818 (by decide) (fun c39 => absurd (by decide) c39) (fun _ => ?_)
        refine lv_goto (tgt := 851) hx hb dL_refuses_821 (by decide) ?_
        refine lv_iconst (v := 1) hx hb dL_refuses_851 (by decide) ?_
        refine lv_goto (tgt := 856) hx hb dL_refuses_852 (by decide) ?_
        exact W.widen (k := 50) (n := 300) (Nat.le_of_ble_eq_true rfl) (Nat.le_of_ble_eq_true rfl) (W.zret (ty := .boolean) hx hb hr rfl (fun t ht hW => ⟨rfl, by rw [ht]; exact hP, hS.F ht⟩) hS.2.2 dL_refuses_856)
    · have c33f : ¬ (gm (mN M)) < 40 := fun z => c33 ((nI_ltI (a := gm (mN M)) (b := 40) (by omega) (by omega)).mpr z)
      refine lv_aload_n hx hb dL_refuses_759 rfl (lv_at hl 2 rfl) ?_
      refine lv_bipush (v := 7) hx hb dL_refuses_760 (by decide) ?_
      refine lv_iconst (v := 5) hx hb dL_refuses_762 (by decide) ?_
      refine lv_iconst (v := 5) hx hb dL_refuses_763 (by decide) ?_
      refine lv_iconst (v := 0) hx hb dL_refuses_764 (by decide) ?_
      refine cl_o1 (rSP (A := blk b (b + 170)) (As := [.ref b, .int 7, .int 5, .int 5, .int 0]) (rest := []) ⟨hx, hb, hml, hown, hts⟩ (c_call_7 l G b X 5 5 0 (-9999003) X hst (RX).ho (RX).hk (no_come_40 RX (by omega))) (va_cwS 5 hts gL_refuses_L_call rfl rfl rfl (by decide +kernel) ⟨(Nat.le_of_ble_eq_true rfl), (Nat.le_of_ble_eq_true rfl)⟩) hP hO (thr_at hTh hS (fun q h => h)) hN rfl hl.1 (Nat.le_of_ble_eq_true rfl) dL_refuses_765 ⟨(Nat.le_of_ble_eq_true rfl), (Nat.le_of_ble_eq_true rfl)⟩) hS (fun q h => h) (fun H locs hP hS => ?_)
      refine lv_ldc (v := (-9999003)) hx hb hown (hts (.constant RL 18 (-9999003)) (by decide +kernel)) dL_refuses_768 ?_
      refine lv_icmp_ne (tgt := 855) hx hb dL_refuses_770 (by decide) (fun c40 => absurd (by decide) c40) (fun _ => ?_)
      refine lv_iload hx hb dL_refuses_773 (lv_at hl 0 rfl) ?_
      refine lv_iconst (v := -1) hx hb dL_refuses_775 (by decide) ?_
      refine lv_icmp_ne (tgt := 824) hx hb dL_refuses_776 (by decide) (fun c41 => ?_) (fun c41 => ?_)
      · have hpk := at_pk RX.nw.2 (c := 0) (by omega) c41
        obtain ⟨ep0, -, h80⟩ := RX.nw.2.ri.X (c := 0) (by omega) hpk
        have hj0 := (RX.nw.2.ri.J (c := 0) (by omega)).2
        rw [ep0] at hl
        refine lv_aload_n hx hb dL_refuses_824 rfl (lv_at hl 2 rfl) ?_
        refine lv_iload hx hb dL_refuses_825 (lv_at hl 0 rfl) ?_
        refine lv_iconst (v := 1) hx hb dL_refuses_827 (by decide) ?_
        refine cl_w1 (xSW (A := blk b (b + 170)) (As := [.ref b, .int (nI (px (mN M) 0)), .int 1]) (rest := []) ⟨hx, hb, hml, hown, hts⟩ (w_L_hydrants l G b X (nI (px (mN M) 0)) 1 (-9999003) X hst (RX).ho (RX).hk (no_hydrant_c RX (c := 0) (x := px (mN M) 0) (by omega) (by omega) (RX.nw.2.pc 0 (by omega) hpk _ ⟨Nat.le_refl _, by omega⟩))) (vx_cwSW 3 hts gL_refuses_L_hydrants rfl rfl rfl (by decide +kernel) ⟨(Nat.le_of_ble_eq_true rfl), (Nat.le_of_ble_eq_true rfl)⟩) hP hO (thr_at hTh hS (fun q h => h)) hN rfl hl.1 (Nat.le_of_ble_eq_true rfl) dL_refuses_828 ⟨(Nat.le_of_ble_eq_true rfl), (Nat.le_of_ble_eq_true rfl)⟩) hS (fun q h => h) (fun H locs hP hS => ?_)
        refine lv_ldc (v := (-9999003)) hx hb hown (hts (.constant RL 18 (-9999003)) (by decide +kernel)) dL_refuses_831 ?_
        refine lv_icmp_ne (tgt := 855) hx hb dL_refuses_833 (by decide) (fun c42 => absurd (by decide) c42) (fun _ => ?_)
        refine lv_aload_n hx hb dL_refuses_836 rfl (lv_at hl 2 rfl) ?_
        refine lv_bipush (v := 10) hx hb dL_refuses_837 (by decide) ?_
        refine lv_iconst (v := 0) hx hb dL_refuses_839 (by decide) ?_
        refine lv_bipush (v := 79) hx hb dL_refuses_840 (by decide) ?_
        refine lv_iconst (v := 0) hx hb dL_refuses_842 (by decide) ?_
        refine cl_o1 (rSP (A := blk b (b + 170)) (As := [.ref b, .int 10, .int 0, .int 79, .int 0]) (rest := []) ⟨hx, hb, hml, hown, hts⟩ (c_call_10 l G b X 0 79 0 (-9999003) X hst (RX).ho (RX).hk (no_move_s RX (c := 0) (x := 79) (by omega) (by omega) (move_79 RX.nw.2 (by omega)))) (va_cwS 5 hts gL_refuses_L_call rfl rfl rfl (by decide +kernel) ⟨(Nat.le_of_ble_eq_true rfl), (Nat.le_of_ble_eq_true rfl)⟩) hP hO (thr_at hTh hS (fun q h => h)) hN rfl hl.1 (Nat.le_of_ble_eq_true rfl) dL_refuses_843 ⟨(Nat.le_of_ble_eq_true rfl), (Nat.le_of_ble_eq_true rfl)⟩) hS (fun q h => h) (fun H locs hP hS => ?_)
        refine lv_ldc (v := (-9999003)) hx hb hown (hts (.constant RL 18 (-9999003)) (by decide +kernel)) dL_refuses_846 ?_
        refine lv_icmp_ne (tgt := 855) hx hb dL_refuses_848 (by decide) (fun c43 => absurd (by decide) c43) (fun _ => ?_)
        refine lv_iconst (v := 1) hx hb dL_refuses_851 (by decide) ?_
        refine lv_goto (tgt := 856) hx hb dL_refuses_852 (by decide) ?_
        exact W.widen (k := 50) (n := 300) (Nat.le_of_ble_eq_true rfl) (Nat.le_of_ble_eq_true rfl) (W.zret (ty := .boolean) hx hb hr rfl (fun t ht hW => ⟨rfl, by rw [ht]; exact hP, hS.F ht⟩) hS.2.2 dL_refuses_856)
      · have hnp : ¬ f_X7_of (mN M) 0 2 = 0 := fun z => by
          rw [(RX.nw.2.ri.X (c := 0) (by omega) z).1] at c41
          exact nI_m1 (by have := (RX.nw.2.ri.X (c := 0) (by omega) z).2.2; omega) c41
        refine lv_aload_n hx hb dL_refuses_779 rfl (lv_at hl 2 rfl) ?_
        refine lv_bipush (v := 8) hx hb dL_refuses_780 (by decide) ?_
        refine lv_iconst (v := 0) hx hb dL_refuses_782 (by decide) ?_
        refine lv_iconst (v := 0) hx hb dL_refuses_783 (by decide) ?_
        refine lv_iconst (v := 0) hx hb dL_refuses_784 (by decide) ?_
        refine cl_o1 (rSP (A := blk b (b + 170)) (As := [.ref b, .int 8, .int 0, .int 0, .int 0]) (rest := []) ⟨hx, hb, hml, hown, hts⟩ (c_call_8 l G b X 0 0 0 (-9999003) X hst (RX).ho (RX).hk (no_leave_p RX (c := 0) (by omega) hnp)) (va_cwS 5 hts gL_refuses_L_call rfl rfl rfl (by decide +kernel) ⟨(Nat.le_of_ble_eq_true rfl), (Nat.le_of_ble_eq_true rfl)⟩) hP hO (thr_at hTh hS (fun q h => h)) hN rfl hl.1 (Nat.le_of_ble_eq_true rfl) dL_refuses_785 ⟨(Nat.le_of_ble_eq_true rfl), (Nat.le_of_ble_eq_true rfl)⟩) hS (fun q h => h) (fun H locs hP hS => ?_)
        refine lv_ldc (v := (-9999003)) hx hb hown (hts (.constant RL 18 (-9999003)) (by decide +kernel)) dL_refuses_788 ?_
        refine lv_icmp_ne (tgt := 855) hx hb dL_refuses_790 (by decide) (fun c44 => absurd (by decide) c44) (fun _ => ?_)
        refine lv_aload_n hx hb dL_refuses_793 rfl (lv_at hl 2 rfl) ?_
        refine lv_bipush (v := 9) hx hb dL_refuses_794 (by decide) ?_
        refine lv_iconst (v := 0) hx hb dL_refuses_796 (by decide) ?_
        refine lv_iconst (v := 0) hx hb dL_refuses_797 (by decide) ?_
        refine lv_iconst (v := 0) hx hb dL_refuses_798 (by decide) ?_
        refine cl_o1 (rSP (A := blk b (b + 170)) (As := [.ref b, .int 9, .int 0, .int 0, .int 0]) (rest := []) ⟨hx, hb, hml, hown, hts⟩ (c_call_9 l G b X 0 0 0 (-9999003) X hst (RX).ho (RX).hk (no_tow_p RX (c := 0) (by omega) hnp)) (va_cwS 5 hts gL_refuses_L_call rfl rfl rfl (by decide +kernel) ⟨(Nat.le_of_ble_eq_true rfl), (Nat.le_of_ble_eq_true rfl)⟩) hP hO (thr_at hTh hS (fun q h => h)) hN rfl hl.1 (Nat.le_of_ble_eq_true rfl) dL_refuses_799 ⟨(Nat.le_of_ble_eq_true rfl), (Nat.le_of_ble_eq_true rfl)⟩) hS (fun q h => h) (fun H locs hP hS => ?_)
        refine lv_ldc (v := (-9999003)) hx hb hown (hts (.constant RL 18 (-9999003)) (by decide +kernel)) dL_refuses_802 ?_
        refine lv_icmp_ne (tgt := 855) hx hb dL_refuses_804 (by decide) (fun c45 => absurd (by decide) c45) (fun _ => ?_)
        refine lv_aload_n hx hb dL_refuses_807 rfl (lv_at hl 2 rfl) ?_
        refine lv_bipush (v := 10) hx hb dL_refuses_808 (by decide) ?_
        refine lv_iconst (v := 0) hx hb dL_refuses_810 (by decide) ?_
        refine lv_iconst (v := 0) hx hb dL_refuses_811 (by decide) ?_
        refine lv_iconst (v := 0) hx hb dL_refuses_812 (by decide) ?_
        refine cl_o1 (rSP (A := blk b (b + 170)) (As := [.ref b, .int 10, .int 0, .int 0, .int 0]) (rest := []) ⟨hx, hb, hml, hown, hts⟩ (c_call_10 l G b X 0 0 0 (-9999003) X hst (RX).ho (RX).hk (no_move_s RX (c := 0) (x := 0) (by omega) (by omega) (move_np RX.nw.2.ri (by omega) hnp))) (va_cwS 5 hts gL_refuses_L_call rfl rfl rfl (by decide +kernel) ⟨(Nat.le_of_ble_eq_true rfl), (Nat.le_of_ble_eq_true rfl)⟩) hP hO (thr_at hTh hS (fun q h => h)) hN rfl hl.1 (Nat.le_of_ble_eq_true rfl) dL_refuses_813 ⟨(Nat.le_of_ble_eq_true rfl), (Nat.le_of_ble_eq_true rfl)⟩) hS (fun q h => h) (fun H locs hP hS => ?_)
        refine lv_ldc (v := (-9999003)) hx hb hown (hts (.constant RL 18 (-9999003)) (by decide +kernel)) dL_refuses_816 ?_
        refine lv_icmp_ne (tgt := 855) hx hb dL_refuses_818 (by decide) (fun c46 => absurd (by decide) c46) (fun _ => ?_)
        refine lv_goto (tgt := 851) hx hb dL_refuses_821 (by decide) ?_
        refine lv_iconst (v := 1) hx hb dL_refuses_851 (by decide) ?_
        refine lv_goto (tgt := 856) hx hb dL_refuses_852 (by decide) ?_
        exact W.widen (k := 50) (n := 300) (Nat.le_of_ble_eq_true rfl) (Nat.le_of_ble_eq_true rfl) (W.zret (ty := .boolean) hx hb hr rfl (fun t ht hW => ⟨rfl, by rw [ht]; exact hP, hS.F ht⟩) hS.2.2 dL_refuses_856)
  refine lv_aload_n hx hb dL_refuses_0 rfl (lv_at hl 0 rfl) ?_
  refine lv_iconst (v := 2) hx hb dL_refuses_1 (by decide) ?_
  refine lv_iconst (v := 0) hx hb dL_refuses_2 (by decide) ?_
  refine lv_iconst (v := 0) hx hb dL_refuses_3 (by decide) ?_
  refine lv_iconst (v := 0) hx hb dL_refuses_4 (by decide) ?_
  refine cl_o1 (rSP (A := blk b (b + 170)) (As := [.ref b, .int 2, .int 0, .int 0, .int 0]) (rest := []) ⟨hx, hb, hml, hown, hts⟩ (c_call_2 l G b X 0 0 0 (nI (gm (mN M))) X hst (rd_ab0 RX)) (va_cwS 5 hts gL_refuses_L_call rfl rfl rfl (by decide +kernel) ⟨(Nat.le_of_ble_eq_true rfl), (Nat.le_of_ble_eq_true rfl)⟩) hP hO (thr_at hTh hS (fun q h => h)) hN rfl hl.1 (Nat.le_of_ble_eq_true rfl) dL_refuses_5 ⟨(Nat.le_of_ble_eq_true rfl), (Nat.le_of_ble_eq_true rfl)⟩) hS (fun q h => h) (fun H locs hP hS => ?_)
  refine lv_istore_n (lv' := [(2, .int (nI (gm (mN M)))), (0, .ref b), (1, .int (nI n))]) hx hb dL_refuses_8 rfl hl (by decide) rfl (fun ls hl => ?_)
  refine lv_iload_n hx hb dL_refuses_9 rfl (lv_at hl 2 rfl) ?_
  refine lv_iconst (v := 2) hx hb dL_refuses_10 (by decide) ?_
  refine irem_n (a := n) (b := 2) hx hb ⟨by omega, by decide, by decide⟩ dL_refuses_11 ?_
  refine lv_if_ne (tgt := 24) hx hb dL_refuses_12 (by decide) (fun c47 => absurd (congrArg nI (show (n % 2 : Nat) = 0 by omega)) c47) (fun _ => ?_)
  refine lv_iconst (v := -1) hx hb dL_refuses_15 (by decide) ?_
  refine lv_iload_n hx hb dL_refuses_16 rfl (lv_at hl 2 rfl) ?_
  refine lv_bipush (v := 99) hx hb dL_refuses_17 (by decide) ?_
  refine irem_n (a := n) (b := 99) hx hb ⟨by omega, by decide, by decide⟩ dL_refuses_19 ?_
  refine lv_isub hx hb dL_refuses_20 ?_
  refine lv_goto (tgt := 30) hx hb dL_refuses_21 (by decide) ?_
  refine lv_istore_n (lv' := [(3, .int ((-1 : Int32) - (nI (n % 99)))), (2, .int (nI (gm (mN M)))), (0, .ref b), (1, .int (nI n))]) hx hb dL_refuses_30 rfl hl (by decide) rfl (fun ls hl => ?_)
  refine lv_iload_n hx hb dL_refuses_31 rfl (lv_at hl 3 rfl) ?_
  refine lv_iconst (v := 2) hx hb dL_refuses_32 (by decide) ?_
  refine irem_n (a := n) (b := 2) hx hb ⟨by omega, by decide, by decide⟩ dL_refuses_33 ?_
  refine lv_if_ne (tgt := 46) hx hb dL_refuses_34 (by decide) (fun c48 => absurd (congrArg nI (show (n % 2 : Nat) = 0 by omega)) c48) (fun _ => ?_)
  refine lv_iconst (v := -1) hx hb dL_refuses_37 (by decide) ?_
  refine lv_iload_n hx hb dL_refuses_38 rfl (lv_at hl 3 rfl) ?_
  refine lv_bipush (v := 99) hx hb dL_refuses_39 (by decide) ?_
  refine irem_n (a := n) (b := 99) hx hb ⟨by omega, by decide, by decide⟩ dL_refuses_41 ?_
  refine lv_isub hx hb dL_refuses_42 ?_
  refine lv_goto (tgt := 53) hx hb dL_refuses_43 (by decide) ?_
  refine lv_istore (lv' := [(4, .int ((-1 : Int32) - (nI (n % 99)))), (3, .int ((-1 : Int32) - (nI (n % 99)))), (2, .int (nI (gm (mN M)))), (0, .ref b), (1, .int (nI n))]) hx hb dL_refuses_53 hl (by decide) rfl (fun ls hl => ?_)
  refine lv_aload_n hx hb dL_refuses_55 rfl (lv_at hl 3 rfl) ?_
  refine lv_iconst (v := 2) hx hb dL_refuses_56 (by decide) ?_
  refine lv_bipush (v := 7) hx hb dL_refuses_57 (by decide) ?_
  refine lv_iconst (v := 0) hx hb dL_refuses_59 (by decide) ?_
  refine lv_iconst (v := 0) hx hb dL_refuses_60 (by decide) ?_
  refine cl_o1 (rSP (A := blk b (b + 170)) (As := [.ref b, .int 2, .int 7, .int 0, .int 0]) (rest := []) ⟨hx, hb, hml, hown, hts⟩ (c_call_2 l G b X 7 0 0 (nI (f_X7_gaps (mN M))) X hst (rd_ab7 RX)) (va_cwS 5 hts gL_refuses_L_call rfl rfl rfl (by decide +kernel) ⟨(Nat.le_of_ble_eq_true rfl), (Nat.le_of_ble_eq_true rfl)⟩) hP hO (thr_at hTh hS (fun q h => h)) hN rfl hl.1 (Nat.le_of_ble_eq_true rfl) dL_refuses_61 ⟨(Nat.le_of_ble_eq_true rfl), (Nat.le_of_ble_eq_true rfl)⟩) hS (fun q h => h) (fun H locs hP hS => ?_)
  refine lv_istore (lv' := [(5, .int (nI (f_X7_gaps (mN M)))), (4, .int ((-1 : Int32) - (nI (n % 99)))), (3, .int ((-1 : Int32) - (nI (n % 99)))), (2, .int (nI (gm (mN M)))), (0, .ref b), (1, .int (nI n))]) hx hb dL_refuses_64 hl (by decide) rfl (fun ls hl => ?_)
  refine lv_iload_n hx hb dL_refuses_66 rfl (lv_at hl 5 rfl) ?_
  refine lv_iconst (v := 2) hx hb dL_refuses_67 (by decide) ?_
  refine irem_n (a := n) (b := 2) hx hb ⟨by omega, by decide, by decide⟩ dL_refuses_68 ?_
  refine lv_if_ne (tgt := 81) hx hb dL_refuses_69 (by decide) (fun c49 => absurd (congrArg nI (show (n % 2 : Nat) = 0 by omega)) c49) (fun _ => ?_)
  refine lv_iconst (v := 1) hx hb dL_refuses_72 (by decide) ?_
  refine lv_iload_n hx hb dL_refuses_73 rfl (lv_at hl 5 rfl) ?_
  refine lv_bipush (v := 9) hx hb dL_refuses_74 (by decide) ?_
  refine irem_n (a := n) (b := 9) hx hb ⟨by omega, by decide, by decide⟩ dL_refuses_76 ?_
  refine lv_isub hx hb dL_refuses_77 ?_
  refine lv_goto (tgt := 88) hx hb dL_refuses_78 (by decide) ?_
  refine lv_istore (lv' := [(6, .int ((1 : Int32) - (nI (n % 9)))), (5, .int (nI (f_X7_gaps (mN M)))), (4, .int ((-1 : Int32) - (nI (n % 99)))), (3, .int ((-1 : Int32) - (nI (n % 99)))), (2, .int (nI (gm (mN M)))), (0, .ref b), (1, .int (nI n))]) hx hb dL_refuses_88 hl (by decide) rfl (fun ls hl => ?_)
  refine lv_aload_n hx hb dL_refuses_90 rfl (lv_at hl 5 rfl) ?_
  refine lv_iconst (v := 0) hx hb dL_refuses_91 (by decide) ?_
  refine lv_iload_n hx hb dL_refuses_92 rfl (lv_at hl 6 rfl) ?_
  refine lv_iconst (v := 2) hx hb dL_refuses_93 (by decide) ?_
  refine irem_n (a := n) (b := 2) hx hb ⟨by omega, by decide, by decide⟩ dL_refuses_94 ?_
  refine lv_if_ne (tgt := 107) hx hb dL_refuses_95 (by decide) (fun c50 => absurd (congrArg nI (show (n % 2 : Nat) = 0 by omega)) c50) (fun _ => ?_)
  refine lv_iconst (v := -1) hx hb dL_refuses_98 (by decide) ?_
  refine lv_iload_n hx hb dL_refuses_99 rfl (lv_at hl 6 rfl) ?_
  refine lv_bipush (v := 9) hx hb dL_refuses_100 (by decide) ?_
  refine irem_n (a := n) (b := 9) hx hb ⟨by omega, by decide, by decide⟩ dL_refuses_102 ?_
  refine lv_isub hx hb dL_refuses_103 ?_
  refine lv_goto (tgt := 115) hx hb dL_refuses_104 (by decide) ?_
  refine lv_iconst (v := 0) hx hb dL_refuses_115 (by decide) ?_
  refine lv_iconst (v := 0) hx hb dL_refuses_116 (by decide) ?_
  refine cl_o1 (rSP (A := blk b (b + 170)) (As := [.ref b, .int 0, .int ((-1 : Int32) - (nI (n % 9))), .int 0, .int 0]) (rest := []) ⟨hx, hb, hml, hown, hts⟩ (c_call_0 l G b X ((-1 : Int32) - (nI (n % 9))) 0 0 (-9999002) X hst (no_append (Or.inl (m1_sub (j := n % 9) (by omega))))) (va_cwS 5 hts gL_refuses_L_call rfl rfl rfl (by decide +kernel) ⟨(Nat.le_of_ble_eq_true rfl), (Nat.le_of_ble_eq_true rfl)⟩) hP hO (thr_at hTh hS (fun q h => h)) hN rfl hl.1 (Nat.le_of_ble_eq_true rfl) dL_refuses_117 ⟨(Nat.le_of_ble_eq_true rfl), (Nat.le_of_ble_eq_true rfl)⟩) hS (fun q h => h) (fun H locs hP hS => ?_)
  refine lv_ldc (v := (-9999002)) hx hb hown (hts (.constant RL 25 (-9999002)) (by decide +kernel)) dL_refuses_120 ?_
  refine lv_icmp_ne (tgt := 735) hx hb dL_refuses_122 (by decide) (fun c51 => absurd (by decide) c51) (fun _ => ?_)
  refine lv_aload_n hx hb dL_refuses_125 rfl (lv_at hl 5 rfl) ?_
  refine lv_iconst (v := 2) hx hb dL_refuses_126 (by decide) ?_
  refine lv_bipush (v := 12) hx hb dL_refuses_127 (by decide) ?_
  refine lv_iload_n hx hb dL_refuses_129 rfl (lv_at hl 6 rfl) ?_
  refine lv_bipush (v := 50) hx hb dL_refuses_130 (by decide) ?_
  refine irem_n (a := n) (b := 50) hx hb ⟨by omega, by decide, by decide⟩ dL_refuses_132 ?_
  refine iadd_n (a := 12) (b := n % 50) hx hb dL_refuses_133 ?_
  refine lv_iconst (v := 0) hx hb dL_refuses_134 (by decide) ?_
  refine lv_iconst (v := 0) hx hb dL_refuses_135 (by decide) ?_
  refine cl_o1 (rSP (A := blk b (b + 170)) (As := [.ref b, .int 2, .int (nI (12 + (n % 50))), .int 0, .int 0]) (rest := []) ⟨hx, hb, hml, hown, hts⟩ (c_call_2 l G b X (nI (12 + (n % 50))) 0 0 (-9999002) X hst (no_about (k := 12 + n % 50) (by omega) (by omega))) (va_cwS 5 hts gL_refuses_L_call rfl rfl rfl (by decide +kernel) ⟨(Nat.le_of_ble_eq_true rfl), (Nat.le_of_ble_eq_true rfl)⟩) hP hO (thr_at hTh hS (fun q h => h)) hN rfl hl.1 (Nat.le_of_ble_eq_true rfl) dL_refuses_136 ⟨(Nat.le_of_ble_eq_true rfl), (Nat.le_of_ble_eq_true rfl)⟩) hS (fun q h => h) (fun H locs hP hS => ?_)
  refine lv_ldc (v := (-9999002)) hx hb hown (hts (.constant RL 25 (-9999002)) (by decide +kernel)) dL_refuses_139 ?_
  refine lv_icmp_ne (tgt := 735) hx hb dL_refuses_141 (by decide) (fun c52 => absurd (by decide) c52) (fun _ => ?_)
  refine lv_aload_n hx hb dL_refuses_144 rfl (lv_at hl 5 rfl) ?_
  refine lv_iconst (v := 3) hx hb dL_refuses_145 (by decide) ?_
  refine lv_iload_n hx hb dL_refuses_146 rfl (lv_at hl 3 rfl) ?_
  refine lv_bipush (v := 99) hx hb dL_refuses_147 (by decide) ?_
  refine lv_iconst (v := 0) hx hb dL_refuses_149 (by decide) ?_
  refine cl_o1 (rSP (A := blk b (b + 170)) (As := [.ref b, .int 3, .int ((-1 : Int32) - (nI (n % 99))), .int 99, .int 0]) (rest := []) ⟨hx, hb, hml, hown, hts⟩ (c_call_3 l G b X ((-1 : Int32) - (nI (n % 99))) 99 0 (-9999001) X hst (no_car RX 99 (Or.inl (m1_sub (j := n % 99) (by omega))))) (va_cwS 5 hts gL_refuses_L_call rfl rfl rfl (by decide +kernel) ⟨(Nat.le_of_ble_eq_true rfl), (Nat.le_of_ble_eq_true rfl)⟩) hP hO (thr_at hTh hS (fun q h => h)) hN rfl hl.1 (Nat.le_of_ble_eq_true rfl) dL_refuses_150 ⟨(Nat.le_of_ble_eq_true rfl), (Nat.le_of_ble_eq_true rfl)⟩) hS (fun q h => h) (fun H locs hP hS => ?_)
  refine lv_ldc (v := (-9999001)) hx hb hown (hts (.constant RL 15 (-9999001)) (by decide +kernel)) dL_refuses_153 ?_
  refine lv_icmp_ne (tgt := 735) hx hb dL_refuses_155 (by decide) (fun c53 => absurd (by decide) c53) (fun _ => ?_)
  refine lv_aload_n hx hb dL_refuses_158 rfl (lv_at hl 5 rfl) ?_
  refine lv_iconst (v := 3) hx hb dL_refuses_159 (by decide) ?_
  refine lv_iconst (v := 0) hx hb dL_refuses_160 (by decide) ?_
  refine lv_bipush (v := 7) hx hb dL_refuses_161 (by decide) ?_
  refine lv_iload_n hx hb dL_refuses_163 rfl (lv_at hl 6 rfl) ?_
  refine lv_bipush (v := 9) hx hb dL_refuses_164 (by decide) ?_
  refine irem_n (a := n) (b := 9) hx hb ⟨by omega, by decide, by decide⟩ dL_refuses_166 ?_
  refine iadd_n (a := 7) (b := n % 9) hx hb dL_refuses_167 ?_
  refine lv_iconst (v := 0) hx hb dL_refuses_168 (by decide) ?_
  refine cl_o1 (rSP (A := blk b (b + 170)) (As := [.ref b, .int 3, .int 0, .int (nI (7 + (n % 9))), .int 0]) (rest := []) ⟨hx, hb, hml, hown, hts⟩ (c_call_3 l G b X 0 (nI (7 + (n % 9))) 0 (-9999002) X hst (no_car_w RX (by omega) (k := 7 + n % 9) (by omega) (by omega))) (va_cwS 5 hts gL_refuses_L_call rfl rfl rfl (by decide +kernel) ⟨(Nat.le_of_ble_eq_true rfl), (Nat.le_of_ble_eq_true rfl)⟩) hP hO (thr_at hTh hS (fun q h => h)) hN rfl hl.1 (Nat.le_of_ble_eq_true rfl) dL_refuses_169 ⟨(Nat.le_of_ble_eq_true rfl), (Nat.le_of_ble_eq_true rfl)⟩) hS (fun q h => h) (fun H locs hP hS => ?_)
  refine lv_ldc (v := (-9999002)) hx hb hown (hts (.constant RL 25 (-9999002)) (by decide +kernel)) dL_refuses_172 ?_
  refine lv_icmp_ne (tgt := 735) hx hb dL_refuses_174 (by decide) (fun c54 => absurd (by decide) c54) (fun _ => ?_)
  refine lv_aload_n hx hb dL_refuses_177 rfl (lv_at hl 5 rfl) ?_
  refine lv_iconst (v := 4) hx hb dL_refuses_178 (by decide) ?_
  refine lv_iload hx hb dL_refuses_179 (lv_at hl 2 rfl) ?_
  refine lv_iconst (v := 0) hx hb dL_refuses_181 (by decide) ?_
  refine lv_iconst (v := 0) hx hb dL_refuses_182 (by decide) ?_
  refine cl_o1 (rSP (A := blk b (b + 170)) (As := [.ref b, .int 4, .int ((-1 : Int32) - (nI (n % 99))), .int 0, .int 0]) (rest := []) ⟨hx, hb, hml, hown, hts⟩ (c_call_4 l G b X ((-1 : Int32) - (nI (n % 99))) 0 0 (-9999001) X hst (no_at (Or.inl (m1_sub (j := n % 99) (by omega))))) (va_cwS 5 hts gL_refuses_L_call rfl rfl rfl (by decide +kernel) ⟨(Nat.le_of_ble_eq_true rfl), (Nat.le_of_ble_eq_true rfl)⟩) hP hO (thr_at hTh hS (fun q h => h)) hN rfl hl.1 (Nat.le_of_ble_eq_true rfl) dL_refuses_183 ⟨(Nat.le_of_ble_eq_true rfl), (Nat.le_of_ble_eq_true rfl)⟩) hS (fun q h => h) (fun H locs hP hS => ?_)
  refine lv_ldc (v := (-9999001)) hx hb hown (hts (.constant RL 15 (-9999001)) (by decide +kernel)) dL_refuses_186 ?_
  refine lv_icmp_ne (tgt := 735) hx hb dL_refuses_188 (by decide) (fun c55 => absurd (by decide) c55) (fun _ => ?_)
  refine lv_aload_n hx hb dL_refuses_191 rfl (lv_at hl 5 rfl) ?_
  refine lv_iconst (v := 5) hx hb dL_refuses_192 (by decide) ?_
  refine lv_iload hx hb dL_refuses_193 (lv_at hl 1 rfl) ?_
  refine lv_iload_n hx hb dL_refuses_195 rfl (lv_at hl 6 rfl) ?_
  refine lv_bipush (v := 9) hx hb dL_refuses_196 (by decide) ?_
  refine irem_n (a := n) (b := 9) hx hb ⟨by omega, by decide, by decide⟩ dL_refuses_198 ?_
  refine iadd_n (a := f_X7_gaps (mN M)) (b := n % 9) hx hb dL_refuses_199 ?_
  refine lv_bipush (v := 9) hx hb dL_refuses_200 (by decide) ?_
  refine lv_iconst (v := 0) hx hb dL_refuses_202 (by decide) ?_
  refine cl_o1 (rSP (A := blk b (b + 170)) (As := [.ref b, .int 5, .int (nI ((f_X7_gaps (mN M)) + (n % 9))), .int 9, .int 0]) (rest := []) ⟨hx, hb, hml, hown, hts⟩ (c_call_5 l G b X (nI ((f_X7_gaps (mN M)) + (n % 9))) 9 0 (-9999001) X hst (no_gap RX 9 (k := f_X7_gaps (mN M) + n % 9) (by omega) (by omega))) (va_cwS 5 hts gL_refuses_L_call rfl rfl rfl (by decide +kernel) ⟨(Nat.le_of_ble_eq_true rfl), (Nat.le_of_ble_eq_true rfl)⟩) hP hO (thr_at hTh hS (fun q h => h)) hN rfl hl.1 (Nat.le_of_ble_eq_true rfl) dL_refuses_203 ⟨(Nat.le_of_ble_eq_true rfl), (Nat.le_of_ble_eq_true rfl)⟩) hS (fun q h => h) (fun H locs hP hS => ?_)
  refine lv_ldc (v := (-9999001)) hx hb hown (hts (.constant RL 15 (-9999001)) (by decide +kernel)) dL_refuses_206 ?_
  refine lv_icmp_ne (tgt := 735) hx hb dL_refuses_208 (by decide) (fun c56 => absurd (by decide) c56) (fun _ => ?_)
  refine lv_aload_n hx hb dL_refuses_211 rfl (lv_at hl 5 rfl) ?_
  refine lv_iconst (v := 5) hx hb dL_refuses_212 (by decide) ?_
  refine lv_iconst (v := -1) hx hb dL_refuses_213 (by decide) ?_
  refine lv_iload_n hx hb dL_refuses_214 rfl (lv_at hl 6 rfl) ?_
  refine lv_bipush (v := 9) hx hb dL_refuses_215 (by decide) ?_
  refine irem_n (a := n) (b := 9) hx hb ⟨by omega, by decide, by decide⟩ dL_refuses_217 ?_
  refine lv_isub hx hb dL_refuses_218 ?_
  refine lv_iconst (v := 0) hx hb dL_refuses_219 (by decide) ?_
  refine lv_iconst (v := 0) hx hb dL_refuses_220 (by decide) ?_
  refine cl_o1 (rSP (A := blk b (b + 170)) (As := [.ref b, .int 5, .int ((-1 : Int32) - (nI (n % 9))), .int 0, .int 0]) (rest := []) ⟨hx, hb, hml, hown, hts⟩ (c_call_5 l G b X ((-1 : Int32) - (nI (n % 9))) 0 0 (-9999001) X hst (no_gap_n (m1_sub (j := n % 9) (by omega)))) (va_cwS 5 hts gL_refuses_L_call rfl rfl rfl (by decide +kernel) ⟨(Nat.le_of_ble_eq_true rfl), (Nat.le_of_ble_eq_true rfl)⟩) hP hO (thr_at hTh hS (fun q h => h)) hN rfl hl.1 (Nat.le_of_ble_eq_true rfl) dL_refuses_221 ⟨(Nat.le_of_ble_eq_true rfl), (Nat.le_of_ble_eq_true rfl)⟩) hS (fun q h => h) (fun H locs hP hS => ?_)
  refine lv_ldc (v := (-9999001)) hx hb hown (hts (.constant RL 15 (-9999001)) (by decide +kernel)) dL_refuses_224 ?_
  refine lv_icmp_ne (tgt := 735) hx hb dL_refuses_226 (by decide) (fun c57 => absurd (by decide) c57) (fun _ => ?_)
  refine lv_iload hx hb dL_refuses_229 (lv_at hl 1 rfl) ?_
  refine lv_if_eq (tgt := 252) hx hb dL_refuses_231 (by decide) (fun c58 => ?_) (fun c58 => ?_)
  · have c58f : (f_X7_gaps (mN M) : Nat) = 0 := nI_inj (a := f_X7_gaps (mN M)) (b := 0) (by omega) (by omega) c58
    refine W.widen (k := 14) (n := 84) (Nat.le_of_ble_eq_true rfl) (Nat.le_of_ble_eq_true rfl) ?_
    exact cut252  _ _ _ hP hS (lv_sub hl [5, 6, 4, 3, 2, 1, 0] rfl)
  · have c58f : ¬ (f_X7_gaps (mN M) : Nat) = 0 := fun z => c58 (congrArg nI z)
    refine lv_aload_n hx hb dL_refuses_234 rfl (lv_at hl 5 rfl) ?_
    refine lv_iconst (v := 5) hx hb dL_refuses_235 (by decide) ?_
    refine lv_iconst (v := 0) hx hb dL_refuses_236 (by decide) ?_
    refine lv_iconst (v := 2) hx hb dL_refuses_237 (by decide) ?_
    refine lv_iload_n hx hb dL_refuses_238 rfl (lv_at hl 6 rfl) ?_
    refine lv_bipush (v := 9) hx hb dL_refuses_239 (by decide) ?_
    refine irem_n (a := n) (b := 9) hx hb ⟨by omega, by decide, by decide⟩ dL_refuses_241 ?_
    refine iadd_n (a := 2) (b := n % 9) hx hb dL_refuses_242 ?_
    refine lv_iconst (v := 0) hx hb dL_refuses_243 (by decide) ?_
    refine cl_o1 (rSP (A := blk b (b + 170)) (As := [.ref b, .int 5, .int 0, .int (nI (2 + (n % 9))), .int 0]) (rest := []) ⟨hx, hb, hml, hown, hts⟩ (c_call_5 l G b X 0 (nI (2 + (n % 9))) 0 (-9999002) X hst (no_gap_w RX (by omega) (k := 2 + n % 9) (by omega) (by omega))) (va_cwS 5 hts gL_refuses_L_call rfl rfl rfl (by decide +kernel) ⟨(Nat.le_of_ble_eq_true rfl), (Nat.le_of_ble_eq_true rfl)⟩) hP hO (thr_at hTh hS (fun q h => h)) hN rfl hl.1 (Nat.le_of_ble_eq_true rfl) dL_refuses_244 ⟨(Nat.le_of_ble_eq_true rfl), (Nat.le_of_ble_eq_true rfl)⟩) hS (fun q h => h) (fun H locs hP hS => ?_)
    refine lv_ldc (v := (-9999002)) hx hb hown (hts (.constant RL 25 (-9999002)) (by decide +kernel)) dL_refuses_247 ?_
    refine lv_icmp_ne (tgt := 735) hx hb dL_refuses_249 (by decide) (fun c59 => absurd (by decide) c59) (fun _ => ?_)
    refine W.widen (k := 14) (n := 84) (Nat.le_of_ble_eq_true rfl) (Nat.le_of_ble_eq_true rfl) ?_
    exact cut252  _ _ _ hP hS (lv_sub hl [5, 6, 4, 3, 2, 1, 0] rfl)

set_option maxHeartbeats 16000000 in
set_option maxRecDepth 100000 in
theorem c_L_refuses_1 (l : Launch) (G : GG) (b : Nat) (X : Cx) (M : Mo) (n : Nat) (hst : l.stackTraces = false) (RX : RelX X M) (CX : Ch X) (hn : n < 100000) (hp : n % 2 = 1) : Met l yL_refuses wsL_refuses ({ frames := 12, cells := 50, slots := 300, locals := 210 }) (PcN G (blk b (b + 170)) [.ref b, .int (nI n)] (Cb G b X)) (QM (some (.int 1)) (Cb G b X) (blk b (b + 170))) 50 300 (blk b (b + 170)) := by
  refine metN (cc := cL_refuses) (maxL := 9) (ret := (some .boolean)) (by decide) rfl ?_
  intro p e s m below meth cd hx hb hr hml hown hts hlocks hP hO hTh hN
  have hg2 : 2 ≤ gm (mN M) := by rw [← nm_gm RX]; exact CX.1
  have hg40 := RX.nw.2.ri.m.2
  have hgaps := gaps_le (mN M)
  have hS : va_S (blk b (b + 170)) s.heap s.heap [] := va_S.rf
  have hl := lv_entry ([.ref b, .int (nI n)]) (n := 9) (Nat.le_of_ble_eq_true rfl)
  rw [lg_entry_eq]
  generalize (lg_sl ([.ref b, .int (nI n)]) ++ List.replicate (9 - (lg_sl ([.ref b, .int (nI n)])).length) Slot.unset).toArray = ls at hl ⊢
  have hl : lv_has ls 9 [(0, .ref b), (1, .int (nI n))] := hl
  have cut252 : ∀ (H : Heap) (locs : List Loc) (ls : Array Slot), Cb G b X H → va_S (blk b (b + 170)) s.heap H locs → lv_has ls 9 [(0, .ref b), (1, .int (nI n)), (2, .int (nI (gm (mN M)))), (3, .int (nI (gm (mN M) + n % 99))), (4, .int (nI (80 + n % 99))), (5, .int (nI (f_X7_gaps (mN M)))), (6, .int (nI (9 + n % 9)))] → W p l e (headSpec wsL_refuses ({ frames := 12, cells := 50, slots := 300, locals := 210 } : Room)).room s m ([.ref b, .int (nI n)] : List Value).toArray below meth cd H locs 14 84 (MQ below (QM (some (.int 1)) (Cb G b X) (blk b (b + 170))) ([.ref b, .int (nI n)] : List Value).toArray s 50 300 (blk b (b + 170))) (F0 m 252 ls []) := by
    intro  H locs ls hP hS hl
    refine lv_aload_n hx hb dL_refuses_252 rfl (lv_at hl 0 rfl) ?_
    refine lv_bipush (v := 6) hx hb dL_refuses_253 (by decide) ?_
    refine lv_iconst (v := 3) hx hb dL_refuses_255 (by decide) ?_
    refine lv_iload_n hx hb dL_refuses_256 rfl (lv_at hl 1 rfl) ?_
    refine lv_bipush (v := 9) hx hb dL_refuses_257 (by decide) ?_
    refine irem_n (a := n) (b := 9) hx hb ⟨by omega, by decide, by decide⟩ dL_refuses_259 ?_
    refine iadd_n (a := 3) (b := n % 9) hx hb dL_refuses_260 ?_
    refine lv_iconst (v := 0) hx hb dL_refuses_261 (by decide) ?_
    refine lv_iconst (v := 0) hx hb dL_refuses_262 (by decide) ?_
    refine cl_o1 (rSP (A := blk b (b + 170)) (As := [.ref b, .int 6, .int (nI (3 + (n % 9))), .int 0, .int 0]) (rest := []) ⟨hx, hb, hml, hown, hts⟩ (c_call_6 l G b X (nI (3 + (n % 9))) 0 0 (-9999002) X hst (no_setting (k := 3 + n % 9) (by omega) (by omega))) (va_cwS 5 hts gL_refuses_L_call rfl rfl rfl (by decide +kernel) ⟨(Nat.le_of_ble_eq_true rfl), (Nat.le_of_ble_eq_true rfl)⟩) hP hO (thr_at hTh hS (fun q h => h)) hN rfl hl.1 (Nat.le_of_ble_eq_true rfl) dL_refuses_263 ⟨(Nat.le_of_ble_eq_true rfl), (Nat.le_of_ble_eq_true rfl)⟩) hS (fun q h => h) (fun H locs hP hS => ?_)
    refine lv_ldc (v := (-9999002)) hx hb hown (hts (.constant RL 25 (-9999002)) (by decide +kernel)) dL_refuses_266 ?_
    refine lv_icmp_ne (tgt := 735) hx hb dL_refuses_268 (by decide) (fun c1 => absurd (by decide) c1) (fun _ => ?_)
    refine lv_aload_n hx hb dL_refuses_271 rfl (lv_at hl 0 rfl) ?_
    refine lv_iload hx hb dL_refuses_272 (lv_at hl 4 rfl) ?_
    refine lv_iconst (v := 1) hx hb dL_refuses_274 (by decide) ?_
    refine cl_w1 (xSW (A := blk b (b + 170)) (As := [.ref b, .int (nI (80 + n % 99)), .int 1]) (rest := []) ⟨hx, hb, hml, hown, hts⟩ (w_L_hydrants l G b X (nI (80 + n % 99)) 1 (-9999001) X hst (RX).ho (RX).hk (no_hydrant 1 (Or.inr (nI_le (a := 80) (b := 80 + n % 99) (by omega) (by omega))))) (vx_cwSW 3 hts gL_refuses_L_hydrants rfl rfl rfl (by decide +kernel) ⟨(Nat.le_of_ble_eq_true rfl), (Nat.le_of_ble_eq_true rfl)⟩) hP hO (thr_at hTh hS (fun q h => h)) hN rfl hl.1 (Nat.le_of_ble_eq_true rfl) dL_refuses_275 ⟨(Nat.le_of_ble_eq_true rfl), (Nat.le_of_ble_eq_true rfl)⟩) hS (fun q h => h) (fun H locs hP hS => ?_)
    refine lv_ldc (v := (-9999001)) hx hb hown (hts (.constant RL 15 (-9999001)) (by decide +kernel)) dL_refuses_278 ?_
    refine lv_icmp_ne (tgt := 735) hx hb dL_refuses_280 (by decide) (fun c2 => absurd (by decide) c2) (fun _ => ?_)
    refine lv_aload_n hx hb dL_refuses_283 rfl (lv_at hl 0 rfl) ?_
    refine lv_bipush (v := 7) hx hb dL_refuses_284 (by decide) ?_
    refine lv_iload hx hb dL_refuses_286 (lv_at hl 6 rfl) ?_
    refine lv_iconst (v := 5) hx hb dL_refuses_288 (by decide) ?_
    refine lv_iconst (v := 0) hx hb dL_refuses_289 (by decide) ?_
    refine cl_o1 (rSP (A := blk b (b + 170)) (As := [.ref b, .int 7, .int (nI (9 + n % 9)), .int 5, .int 0]) (rest := []) ⟨hx, hb, hml, hown, hts⟩ (c_call_7 l G b X (nI (9 + n % 9)) 5 0 (-9999002) X hst (RX).ho (RX).hk (no_come 5 (Or.inr (nI_lt (a := 8) (b := 9 + n % 9) (by omega) (by omega))))) (va_cwS 5 hts gL_refuses_L_call rfl rfl rfl (by decide +kernel) ⟨(Nat.le_of_ble_eq_true rfl), (Nat.le_of_ble_eq_true rfl)⟩) hP hO (thr_at hTh hS (fun q h => h)) hN rfl hl.1 (Nat.le_of_ble_eq_true rfl) dL_refuses_290 ⟨(Nat.le_of_ble_eq_true rfl), (Nat.le_of_ble_eq_true rfl)⟩) hS (fun q h => h) (fun H locs hP hS => ?_)
    refine lv_ldc (v := (-9999002)) hx hb hown (hts (.constant RL 25 (-9999002)) (by decide +kernel)) dL_refuses_293 ?_
    refine lv_icmp_ne (tgt := 735) hx hb dL_refuses_295 (by decide) (fun c3 => absurd (by decide) c3) (fun _ => ?_)
    refine lv_aload_n hx hb dL_refuses_298 rfl (lv_at hl 0 rfl) ?_
    refine lv_bipush (v := 7) hx hb dL_refuses_299 (by decide) ?_
    refine lv_iconst (v := 5) hx hb dL_refuses_301 (by decide) ?_
    refine lv_iload_n hx hb dL_refuses_302 rfl (lv_at hl 1 rfl) ?_
    refine lv_iconst (v := 2) hx hb dL_refuses_303 (by decide) ?_
    refine irem_n (a := n) (b := 2) hx hb ⟨by omega, by decide, by decide⟩ dL_refuses_304 ?_
    refine lv_if_ne (tgt := 312) hx hb dL_refuses_305 (by decide) (fun _ => ?_) (fun c4 => absurd c4 (fun z => absurd (nI_inj (a := n % 2) (b := 0) (by omega) (by omega) z) (by omega)))
    refine lv_bipush (v := 100) hx hb dL_refuses_312 (by decide) ?_
    refine lv_iload_n hx hb dL_refuses_314 rfl (lv_at hl 1 rfl) ?_
    refine lv_bipush (v := 9) hx hb dL_refuses_315 (by decide) ?_
    refine irem_n (a := n) (b := 9) hx hb ⟨by omega, by decide, by decide⟩ dL_refuses_317 ?_
    refine iadd_n (a := 100) (b := n % 9) hx hb dL_refuses_318 ?_
    refine lv_iconst (v := 0) hx hb dL_refuses_319 (by decide) ?_
    refine cl_o1 (rSP (A := blk b (b + 170)) (As := [.ref b, .int 7, .int 5, .int (nI (100 + (n % 9))), .int 0]) (rest := []) ⟨hx, hb, hml, hown, hts⟩ (c_call_7 l G b X 5 (nI (100 + (n % 9))) 0 (-9999002) X hst (RX).ho (RX).hk (no_come_s (Or.inr (nI_lt (a := 99) (b := 100 + n % 9) (by omega) (by omega))))) (va_cwS 5 hts gL_refuses_L_call rfl rfl rfl (by decide +kernel) ⟨(Nat.le_of_ble_eq_true rfl), (Nat.le_of_ble_eq_true rfl)⟩) hP hO (thr_at hTh hS (fun q h => h)) hN rfl hl.1 (Nat.le_of_ble_eq_true rfl) dL_refuses_320 ⟨(Nat.le_of_ble_eq_true rfl), (Nat.le_of_ble_eq_true rfl)⟩) hS (fun q h => h) (fun H locs hP hS => ?_)
    refine lv_ldc (v := (-9999002)) hx hb hown (hts (.constant RL 25 (-9999002)) (by decide +kernel)) dL_refuses_323 ?_
    refine lv_icmp_ne (tgt := 735) hx hb dL_refuses_325 (by decide) (fun c5 => absurd (by decide) c5) (fun _ => ?_)
    refine lv_aload_n hx hb dL_refuses_328 rfl (lv_at hl 0 rfl) ?_
    refine lv_bipush (v := 8) hx hb dL_refuses_329 (by decide) ?_
    refine lv_iload_n hx hb dL_refuses_331 rfl (lv_at hl 3 rfl) ?_
    refine lv_iconst (v := 0) hx hb dL_refuses_332 (by decide) ?_
    refine lv_iconst (v := 0) hx hb dL_refuses_333 (by decide) ?_
    refine cl_o1 (rSP (A := blk b (b + 170)) (As := [.ref b, .int 8, .int (nI (gm (mN M) + n % 99)), .int 0, .int 0]) (rest := []) ⟨hx, hb, hml, hown, hts⟩ (c_call_8 l G b X (nI (gm (mN M) + n % 99)) 0 0 (-9999001) X hst (RX).ho (RX).hk (no_leave RX (Or.inr (nI_le (a := gm (mN M)) (b := gm (mN M) + n % 99) (by omega) (by omega))))) (va_cwS 5 hts gL_refuses_L_call rfl rfl rfl (by decide +kernel) ⟨(Nat.le_of_ble_eq_true rfl), (Nat.le_of_ble_eq_true rfl)⟩) hP hO (thr_at hTh hS (fun q h => h)) hN rfl hl.1 (Nat.le_of_ble_eq_true rfl) dL_refuses_334 ⟨(Nat.le_of_ble_eq_true rfl), (Nat.le_of_ble_eq_true rfl)⟩) hS (fun q h => h) (fun H locs hP hS => ?_)
    refine lv_ldc (v := (-9999001)) hx hb hown (hts (.constant RL 15 (-9999001)) (by decide +kernel)) dL_refuses_337 ?_
    refine lv_icmp_ne (tgt := 735) hx hb dL_refuses_339 (by decide) (fun c6 => absurd (by decide) c6) (fun _ => ?_)
    refine lv_aload_n hx hb dL_refuses_342 rfl (lv_at hl 0 rfl) ?_
    refine lv_bipush (v := 9) hx hb dL_refuses_343 (by decide) ?_
    refine lv_iload_n hx hb dL_refuses_345 rfl (lv_at hl 3 rfl) ?_
    refine lv_iconst (v := 0) hx hb dL_refuses_346 (by decide) ?_
    refine lv_iconst (v := 0) hx hb dL_refuses_347 (by decide) ?_
    refine cl_o1 (rSP (A := blk b (b + 170)) (As := [.ref b, .int 9, .int (nI (gm (mN M) + n % 99)), .int 0, .int 0]) (rest := []) ⟨hx, hb, hml, hown, hts⟩ (c_call_9 l G b X (nI (gm (mN M) + n % 99)) 0 0 (-9999001) X hst (RX).ho (RX).hk (no_tow RX (Or.inr (nI_le (a := gm (mN M)) (b := gm (mN M) + n % 99) (by omega) (by omega))))) (va_cwS 5 hts gL_refuses_L_call rfl rfl rfl (by decide +kernel) ⟨(Nat.le_of_ble_eq_true rfl), (Nat.le_of_ble_eq_true rfl)⟩) hP hO (thr_at hTh hS (fun q h => h)) hN rfl hl.1 (Nat.le_of_ble_eq_true rfl) dL_refuses_348 ⟨(Nat.le_of_ble_eq_true rfl), (Nat.le_of_ble_eq_true rfl)⟩) hS (fun q h => h) (fun H locs hP hS => ?_)
    refine lv_ldc (v := (-9999001)) hx hb hown (hts (.constant RL 15 (-9999001)) (by decide +kernel)) dL_refuses_351 ?_
    refine lv_icmp_ne (tgt := 735) hx hb dL_refuses_353 (by decide) (fun c7 => absurd (by decide) c7) (fun _ => ?_)
    refine lv_aload_n hx hb dL_refuses_356 rfl (lv_at hl 0 rfl) ?_
    refine lv_bipush (v := 10) hx hb dL_refuses_357 (by decide) ?_
    refine lv_iload_n hx hb dL_refuses_359 rfl (lv_at hl 3 rfl) ?_
    refine lv_iconst (v := 0) hx hb dL_refuses_360 (by decide) ?_
    refine lv_iconst (v := 0) hx hb dL_refuses_361 (by decide) ?_
    refine cl_o1 (rSP (A := blk b (b + 170)) (As := [.ref b, .int 10, .int (nI (gm (mN M) + n % 99)), .int 0, .int 0]) (rest := []) ⟨hx, hb, hml, hown, hts⟩ (c_call_10 l G b X (nI (gm (mN M) + n % 99)) 0 0 (-9999001) X hst (RX).ho (RX).hk (no_move RX 0 (Or.inr (nI_le (a := gm (mN M)) (b := gm (mN M) + n % 99) (by omega) (by omega))))) (va_cwS 5 hts gL_refuses_L_call rfl rfl rfl (by decide +kernel) ⟨(Nat.le_of_ble_eq_true rfl), (Nat.le_of_ble_eq_true rfl)⟩) hP hO (thr_at hTh hS (fun q h => h)) hN rfl hl.1 (Nat.le_of_ble_eq_true rfl) dL_refuses_362 ⟨(Nat.le_of_ble_eq_true rfl), (Nat.le_of_ble_eq_true rfl)⟩) hS (fun q h => h) (fun H locs hP hS => ?_)
    refine lv_ldc (v := (-9999001)) hx hb hown (hts (.constant RL 15 (-9999001)) (by decide +kernel)) dL_refuses_365 ?_
    refine lv_icmp_ne (tgt := 735) hx hb dL_refuses_367 (by decide) (fun c8 => absurd (by decide) c8) (fun _ => ?_)
    refine lv_aload_n hx hb dL_refuses_370 rfl (lv_at hl 0 rfl) ?_
    refine lv_bipush (v := 10) hx hb dL_refuses_371 (by decide) ?_
    refine lv_iconst (v := 0) hx hb dL_refuses_373 (by decide) ?_
    refine lv_iload hx hb dL_refuses_374 (lv_at hl 4 rfl) ?_
    refine lv_iconst (v := 0) hx hb dL_refuses_376 (by decide) ?_
    refine cl_o1 (rSP (A := blk b (b + 170)) (As := [.ref b, .int 10, .int 0, .int (nI (80 + n % 99)), .int 0]) (rest := []) ⟨hx, hb, hml, hown, hts⟩ (c_call_10 l G b X 0 (nI (80 + n % 99)) 0 (-9999001) X hst (RX).ho (RX).hk (no_move_c RX (by omega) (Or.inr (nI_le (a := 80) (b := 80 + n % 99) (by omega) (by omega))))) (va_cwS 5 hts gL_refuses_L_call rfl rfl rfl (by decide +kernel) ⟨(Nat.le_of_ble_eq_true rfl), (Nat.le_of_ble_eq_true rfl)⟩) hP hO (thr_at hTh hS (fun q h => h)) hN rfl hl.1 (Nat.le_of_ble_eq_true rfl) dL_refuses_377 ⟨(Nat.le_of_ble_eq_true rfl), (Nat.le_of_ble_eq_true rfl)⟩) hS (fun q h => h) (fun H locs hP hS => ?_)
    refine lv_ldc (v := (-9999001)) hx hb hown (hts (.constant RL 15 (-9999001)) (by decide +kernel)) dL_refuses_380 ?_
    refine lv_icmp_ne (tgt := 735) hx hb dL_refuses_382 (by decide) (fun c9 => absurd (by decide) c9) (fun _ => ?_)
    refine lv_aload_n hx hb dL_refuses_385 rfl (lv_at hl 0 rfl) ?_
    refine lv_bipush (v := 11) hx hb dL_refuses_386 (by decide) ?_
    refine lv_iload_n hx hb dL_refuses_388 rfl (lv_at hl 1 rfl) ?_
    refine lv_iconst (v := 2) hx hb dL_refuses_389 (by decide) ?_
    refine irem_n (a := n) (b := 2) hx hb ⟨by omega, by decide, by decide⟩ dL_refuses_390 ?_
    refine lv_if_ne (tgt := 398) hx hb dL_refuses_391 (by decide) (fun _ => ?_) (fun c10 => absurd c10 (fun z => absurd (nI_inj (a := n % 2) (b := 0) (by omega) (by omega) z) (by omega)))
    refine lv_bipush (v := 61) hx hb dL_refuses_398 (by decide) ?_
    refine lv_iload_n hx hb dL_refuses_400 rfl (lv_at hl 1 rfl) ?_
    refine lv_bipush (v := 9) hx hb dL_refuses_401 (by decide) ?_
    refine irem_n (a := n) (b := 9) hx hb ⟨by omega, by decide, by decide⟩ dL_refuses_403 ?_
    refine iadd_n (a := 61) (b := n % 9) hx hb dL_refuses_404 ?_
    refine lv_iconst (v := 0) hx hb dL_refuses_405 (by decide) ?_
    refine lv_iconst (v := 0) hx hb dL_refuses_406 (by decide) ?_
    refine cl_o1 (rSP (A := blk b (b + 170)) (As := [.ref b, .int 11, .int (nI (61 + (n % 9))), .int 0, .int 0]) (rest := []) ⟨hx, hb, hml, hown, hts⟩ (c_call_11 l G b X (nI (61 + (n % 9))) 0 0 (-9999002) X hst (RX).ho (RX).hk (no_minutes (Or.inr (nI_lt (a := 60) (b := 61 + n % 9) (by omega) (by omega))))) (va_cwS 5 hts gL_refuses_L_call rfl rfl rfl (by decide +kernel) ⟨(Nat.le_of_ble_eq_true rfl), (Nat.le_of_ble_eq_true rfl)⟩) hP hO (thr_at hTh hS (fun q h => h)) hN rfl hl.1 (Nat.le_of_ble_eq_true rfl) dL_refuses_407 ⟨(Nat.le_of_ble_eq_true rfl), (Nat.le_of_ble_eq_true rfl)⟩) hS (fun q h => h) (fun H locs hP hS => ?_)
    refine lv_ldc (v := (-9999002)) hx hb hown (hts (.constant RL 25 (-9999002)) (by decide +kernel)) dL_refuses_410 ?_
    refine lv_icmp_ne (tgt := 735) hx hb dL_refuses_412 (by decide) (fun c11 => absurd (by decide) c11) (fun _ => ?_)
    refine lv_aload_n hx hb dL_refuses_415 rfl (lv_at hl 0 rfl) ?_
    refine lv_bipush (v := 12) hx hb dL_refuses_416 (by decide) ?_
    refine lv_iconst (v := 0) hx hb dL_refuses_418 (by decide) ?_
    refine lv_iload_n hx hb dL_refuses_419 rfl (lv_at hl 1 rfl) ?_
    refine lv_iconst (v := 2) hx hb dL_refuses_420 (by decide) ?_
    refine irem_n (a := n) (b := 2) hx hb ⟨by omega, by decide, by decide⟩ dL_refuses_421 ?_
    refine lv_if_ne (tgt := 429) hx hb dL_refuses_422 (by decide) (fun _ => ?_) (fun c12 => absurd c12 (fun z => absurd (nI_inj (a := n % 2) (b := 0) (by omega) (by omega) z) (by omega)))
    refine lv_iconst (v := 3) hx hb dL_refuses_429 (by decide) ?_
    refine lv_iload_n hx hb dL_refuses_430 rfl (lv_at hl 1 rfl) ?_
    refine lv_bipush (v := 9) hx hb dL_refuses_431 (by decide) ?_
    refine irem_n (a := n) (b := 9) hx hb ⟨by omega, by decide, by decide⟩ dL_refuses_433 ?_
    refine iadd_n (a := 3) (b := n % 9) hx hb dL_refuses_434 ?_
    refine lv_iconst (v := 0) hx hb dL_refuses_435 (by decide) ?_
    refine cl_o1 (rSP (A := blk b (b + 170)) (As := [.ref b, .int 12, .int 0, .int (nI (3 + (n % 9))), .int 0]) (rest := []) ⟨hx, hb, hml, hown, hts⟩ (c_call_12 l G b X 0 (nI (3 + (n % 9))) 0 (-9999002) X hst (RX).ho (RX).hk (no_set0 (Or.inr (nI_lt (a := 2) (b := 3 + n % 9) (by omega) (by omega))))) (va_cwS 5 hts gL_refuses_L_call rfl rfl rfl (by decide +kernel) ⟨(Nat.le_of_ble_eq_true rfl), (Nat.le_of_ble_eq_true rfl)⟩) hP hO (thr_at hTh hS (fun q h => h)) hN rfl hl.1 (Nat.le_of_ble_eq_true rfl) dL_refuses_436 ⟨(Nat.le_of_ble_eq_true rfl), (Nat.le_of_ble_eq_true rfl)⟩) hS (fun q h => h) (fun H locs hP hS => ?_)
    refine lv_ldc (v := (-9999002)) hx hb hown (hts (.constant RL 25 (-9999002)) (by decide +kernel)) dL_refuses_439 ?_
    refine lv_icmp_ne (tgt := 735) hx hb dL_refuses_441 (by decide) (fun c13 => absurd (by decide) c13) (fun _ => ?_)
    refine lv_aload_n hx hb dL_refuses_444 rfl (lv_at hl 0 rfl) ?_
    refine lv_bipush (v := 12) hx hb dL_refuses_445 (by decide) ?_
    refine lv_iconst (v := 1) hx hb dL_refuses_447 (by decide) ?_
    refine lv_iload_n hx hb dL_refuses_448 rfl (lv_at hl 1 rfl) ?_
    refine lv_iconst (v := 2) hx hb dL_refuses_449 (by decide) ?_
    refine irem_n (a := n) (b := 2) hx hb ⟨by omega, by decide, by decide⟩ dL_refuses_450 ?_
    refine lv_if_ne (tgt := 458) hx hb dL_refuses_451 (by decide) (fun _ => ?_) (fun c14 => absurd c14 (fun z => absurd (nI_inj (a := n % 2) (b := 0) (by omega) (by omega) z) (by omega)))
    refine lv_iconst (v := 5) hx hb dL_refuses_458 (by decide) ?_
    refine lv_iload_n hx hb dL_refuses_459 rfl (lv_at hl 1 rfl) ?_
    refine lv_bipush (v := 9) hx hb dL_refuses_460 (by decide) ?_
    refine irem_n (a := n) (b := 9) hx hb ⟨by omega, by decide, by decide⟩ dL_refuses_462 ?_
    refine iadd_n (a := 5) (b := n % 9) hx hb dL_refuses_463 ?_
    refine lv_iconst (v := 0) hx hb dL_refuses_464 (by decide) ?_
    refine cl_o1 (rSP (A := blk b (b + 170)) (As := [.ref b, .int 12, .int 1, .int (nI (5 + (n % 9))), .int 0]) (rest := []) ⟨hx, hb, hml, hown, hts⟩ (c_call_12 l G b X 1 (nI (5 + (n % 9))) 0 (-9999002) X hst (RX).ho (RX).hk (no_set1 (Or.inr (nI_lt (a := 4) (b := 5 + n % 9) (by omega) (by omega))))) (va_cwS 5 hts gL_refuses_L_call rfl rfl rfl (by decide +kernel) ⟨(Nat.le_of_ble_eq_true rfl), (Nat.le_of_ble_eq_true rfl)⟩) hP hO (thr_at hTh hS (fun q h => h)) hN rfl hl.1 (Nat.le_of_ble_eq_true rfl) dL_refuses_465 ⟨(Nat.le_of_ble_eq_true rfl), (Nat.le_of_ble_eq_true rfl)⟩) hS (fun q h => h) (fun H locs hP hS => ?_)
    refine lv_ldc (v := (-9999002)) hx hb hown (hts (.constant RL 25 (-9999002)) (by decide +kernel)) dL_refuses_468 ?_
    refine lv_icmp_ne (tgt := 735) hx hb dL_refuses_470 (by decide) (fun c15 => absurd (by decide) c15) (fun _ => ?_)
    refine lv_aload_n hx hb dL_refuses_473 rfl (lv_at hl 0 rfl) ?_
    refine lv_bipush (v := 12) hx hb dL_refuses_474 (by decide) ?_
    refine lv_iconst (v := 2) hx hb dL_refuses_476 (by decide) ?_
    refine lv_iload_n hx hb dL_refuses_477 rfl (lv_at hl 1 rfl) ?_
    refine lv_iconst (v := 2) hx hb dL_refuses_478 (by decide) ?_
    refine irem_n (a := n) (b := 2) hx hb ⟨by omega, by decide, by decide⟩ dL_refuses_479 ?_
    refine lv_if_ne (tgt := 487) hx hb dL_refuses_480 (by decide) (fun _ => ?_) (fun c16 => absurd c16 (fun z => absurd (nI_inj (a := n % 2) (b := 0) (by omega) (by omega) z) (by omega)))
    refine lv_bipush (v := 31) hx hb dL_refuses_487 (by decide) ?_
    refine lv_iload_n hx hb dL_refuses_489 rfl (lv_at hl 1 rfl) ?_
    refine lv_bipush (v := 9) hx hb dL_refuses_490 (by decide) ?_
    refine irem_n (a := n) (b := 9) hx hb ⟨by omega, by decide, by decide⟩ dL_refuses_492 ?_
    refine iadd_n (a := 31) (b := n % 9) hx hb dL_refuses_493 ?_
    refine lv_iconst (v := 0) hx hb dL_refuses_494 (by decide) ?_
    refine cl_o1 (rSP (A := blk b (b + 170)) (As := [.ref b, .int 12, .int 2, .int (nI (31 + (n % 9))), .int 0]) (rest := []) ⟨hx, hb, hml, hown, hts⟩ (c_call_12 l G b X 2 (nI (31 + (n % 9))) 0 (-9999002) X hst (RX).ho (RX).hk (no_set2 (Or.inr (nI_lt (a := 30) (b := 31 + n % 9) (by omega) (by omega))))) (va_cwS 5 hts gL_refuses_L_call rfl rfl rfl (by decide +kernel) ⟨(Nat.le_of_ble_eq_true rfl), (Nat.le_of_ble_eq_true rfl)⟩) hP hO (thr_at hTh hS (fun q h => h)) hN rfl hl.1 (Nat.le_of_ble_eq_true rfl) dL_refuses_495 ⟨(Nat.le_of_ble_eq_true rfl), (Nat.le_of_ble_eq_true rfl)⟩) hS (fun q h => h) (fun H locs hP hS => ?_)
    refine lv_ldc (v := (-9999002)) hx hb hown (hts (.constant RL 25 (-9999002)) (by decide +kernel)) dL_refuses_498 ?_
    refine lv_icmp_ne (tgt := 735) hx hb dL_refuses_500 (by decide) (fun c17 => absurd (by decide) c17) (fun _ => ?_)
    refine lv_aload_n hx hb dL_refuses_503 rfl (lv_at hl 0 rfl) ?_
    refine lv_bipush (v := 12) hx hb dL_refuses_504 (by decide) ?_
    refine lv_iconst (v := 3) hx hb dL_refuses_506 (by decide) ?_
    refine lv_iload_n hx hb dL_refuses_507 rfl (lv_at hl 1 rfl) ?_
    refine lv_bipush (v := 9) hx hb dL_refuses_508 (by decide) ?_
    refine irem_n (a := n) (b := 9) hx hb ⟨by omega, by decide, by decide⟩ dL_refuses_510 ?_
    refine iadd_n (a := 3) (b := n % 9) hx hb dL_refuses_511 ?_
    refine lv_iconst (v := 1) hx hb dL_refuses_512 (by decide) ?_
    refine lv_iconst (v := 0) hx hb dL_refuses_513 (by decide) ?_
    refine cl_o1 (rSP (A := blk b (b + 170)) (As := [.ref b, .int 12, .int (nI (3 + (n % 9))), .int 1, .int 0]) (rest := []) ⟨hx, hb, hml, hown, hts⟩ (c_call_12 l G b X (nI (3 + (n % 9))) 1 0 (-9999002) X hst (RX).ho (RX).hk (no_set_w 1 (k := 3 + n % 9) (by omega) (by omega))) (va_cwS 5 hts gL_refuses_L_call rfl rfl rfl (by decide +kernel) ⟨(Nat.le_of_ble_eq_true rfl), (Nat.le_of_ble_eq_true rfl)⟩) hP hO (thr_at hTh hS (fun q h => h)) hN rfl hl.1 (Nat.le_of_ble_eq_true rfl) dL_refuses_514 ⟨(Nat.le_of_ble_eq_true rfl), (Nat.le_of_ble_eq_true rfl)⟩) hS (fun q h => h) (fun H locs hP hS => ?_)
    refine lv_ldc (v := (-9999002)) hx hb hown (hts (.constant RL 25 (-9999002)) (by decide +kernel)) dL_refuses_517 ?_
    refine lv_icmp_ne (tgt := 735) hx hb dL_refuses_519 (by decide) (fun c18 => absurd (by decide) c18) (fun _ => ?_)
    refine lv_aload_n hx hb dL_refuses_522 rfl (lv_at hl 0 rfl) ?_
    refine lv_bipush (v := 14) hx hb dL_refuses_523 (by decide) ?_
    refine lv_iload hx hb dL_refuses_525 (lv_at hl 6 rfl) ?_
    refine lv_iconst (v := 0) hx hb dL_refuses_527 (by decide) ?_
    refine lv_iconst (v := 0) hx hb dL_refuses_528 (by decide) ?_
    refine cl_o1 (rSP (A := blk b (b + 170)) (As := [.ref b, .int 14, .int (nI (9 + n % 9)), .int 0, .int 0]) (rest := []) ⟨hx, hb, hml, hown, hts⟩ (c_call_14 l G b X (nI (9 + n % 9)) 0 0 (-9999002) X hst (no_why (Or.inr (nI_lt (a := 8) (b := 9 + n % 9) (by omega) (by omega))))) (va_cwS 5 hts gL_refuses_L_call rfl rfl rfl (by decide +kernel) ⟨(Nat.le_of_ble_eq_true rfl), (Nat.le_of_ble_eq_true rfl)⟩) hP hO (thr_at hTh hS (fun q h => h)) hN rfl hl.1 (Nat.le_of_ble_eq_true rfl) dL_refuses_529 ⟨(Nat.le_of_ble_eq_true rfl), (Nat.le_of_ble_eq_true rfl)⟩) hS (fun q h => h) (fun H locs hP hS => ?_)
    refine lv_ldc (v := (-9999002)) hx hb hown (hts (.constant RL 25 (-9999002)) (by decide +kernel)) dL_refuses_532 ?_
    refine lv_icmp_ne (tgt := 735) hx hb dL_refuses_534 (by decide) (fun c19 => absurd (by decide) c19) (fun _ => ?_)
    refine lv_aload_n hx hb dL_refuses_537 rfl (lv_at hl 0 rfl) ?_
    refine lv_bipush (v := 15) hx hb dL_refuses_538 (by decide) ?_
    refine lv_iload hx hb dL_refuses_540 (lv_at hl 6 rfl) ?_
    refine lv_iconst (v := 0) hx hb dL_refuses_542 (by decide) ?_
    refine lv_iconst (v := 0) hx hb dL_refuses_543 (by decide) ?_
    refine cl_o1 (rSP (A := blk b (b + 170)) (As := [.ref b, .int 15, .int (nI (9 + n % 9)), .int 0, .int 0]) (rest := []) ⟨hx, hb, hml, hown, hts⟩ (c_call_15 l G b X (nI (9 + n % 9)) 0 0 (-9999002) X hst (no_place (Or.inr (nI_lt (a := 8) (b := 9 + n % 9) (by omega) (by omega))))) (va_cwS 5 hts gL_refuses_L_call rfl rfl rfl (by decide +kernel) ⟨(Nat.le_of_ble_eq_true rfl), (Nat.le_of_ble_eq_true rfl)⟩) hP hO (thr_at hTh hS (fun q h => h)) hN rfl hl.1 (Nat.le_of_ble_eq_true rfl) dL_refuses_544 ⟨(Nat.le_of_ble_eq_true rfl), (Nat.le_of_ble_eq_true rfl)⟩) hS (fun q h => h) (fun H locs hP hS => ?_)
    refine lv_ldc (v := (-9999002)) hx hb hown (hts (.constant RL 25 (-9999002)) (by decide +kernel)) dL_refuses_547 ?_
    refine lv_icmp_ne (tgt := 735) hx hb dL_refuses_549 (by decide) (fun c20 => absurd (by decide) c20) (fun _ => ?_)
    refine lv_aload_n hx hb dL_refuses_552 rfl (lv_at hl 0 rfl) ?_
    refine lv_bipush (v := 16) hx hb dL_refuses_553 (by decide) ?_
    refine lv_iload hx hb dL_refuses_555 (lv_at hl 6 rfl) ?_
    refine lv_iconst (v := 0) hx hb dL_refuses_557 (by decide) ?_
    refine lv_iconst (v := 0) hx hb dL_refuses_558 (by decide) ?_
    refine cl_o1 (rSP (A := blk b (b + 170)) (As := [.ref b, .int 16, .int (nI (9 + n % 9)), .int 0, .int 0]) (rest := []) ⟨hx, hb, hml, hown, hts⟩ (c_call_16 l G b X (nI (9 + n % 9)) 0 0 (-9999002) X hst (no_fits 0 (Or.inr (nI_lt (a := 8) (b := 9 + n % 9) (by omega) (by omega))))) (va_cwS 5 hts gL_refuses_L_call rfl rfl rfl (by decide +kernel) ⟨(Nat.le_of_ble_eq_true rfl), (Nat.le_of_ble_eq_true rfl)⟩) hP hO (thr_at hTh hS (fun q h => h)) hN rfl hl.1 (Nat.le_of_ble_eq_true rfl) dL_refuses_559 ⟨(Nat.le_of_ble_eq_true rfl), (Nat.le_of_ble_eq_true rfl)⟩) hS (fun q h => h) (fun H locs hP hS => ?_)
    refine lv_ldc (v := (-9999002)) hx hb hown (hts (.constant RL 25 (-9999002)) (by decide +kernel)) dL_refuses_562 ?_
    refine lv_icmp_ne (tgt := 735) hx hb dL_refuses_564 (by decide) (fun c21 => absurd (by decide) c21) (fun _ => ?_)
    refine lv_aload_n hx hb dL_refuses_567 rfl (lv_at hl 0 rfl) ?_
    refine lv_bipush (v := 16) hx hb dL_refuses_568 (by decide) ?_
    refine lv_iconst (v := 5) hx hb dL_refuses_570 (by decide) ?_
    refine lv_iconst (v := 2) hx hb dL_refuses_571 (by decide) ?_
    refine lv_iload_n hx hb dL_refuses_572 rfl (lv_at hl 1 rfl) ?_
    refine lv_bipush (v := 9) hx hb dL_refuses_573 (by decide) ?_
    refine irem_n (a := n) (b := 9) hx hb ⟨by omega, by decide, by decide⟩ dL_refuses_575 ?_
    refine iadd_n (a := 2) (b := n % 9) hx hb dL_refuses_576 ?_
    refine lv_iconst (v := 0) hx hb dL_refuses_577 (by decide) ?_
    refine cl_o1 (rSP (A := blk b (b + 170)) (As := [.ref b, .int 16, .int 5, .int (nI (2 + (n % 9))), .int 0]) (rest := []) ⟨hx, hb, hml, hown, hts⟩ (c_call_16 l G b X 5 (nI (2 + (n % 9))) 0 (-9999002) X hst (no_fits_w (k := 2 + n % 9) (by omega) (by omega))) (va_cwS 5 hts gL_refuses_L_call rfl rfl rfl (by decide +kernel) ⟨(Nat.le_of_ble_eq_true rfl), (Nat.le_of_ble_eq_true rfl)⟩) hP hO (thr_at hTh hS (fun q h => h)) hN rfl hl.1 (Nat.le_of_ble_eq_true rfl) dL_refuses_578 ⟨(Nat.le_of_ble_eq_true rfl), (Nat.le_of_ble_eq_true rfl)⟩) hS (fun q h => h) (fun H locs hP hS => ?_)
    refine lv_ldc (v := (-9999002)) hx hb hown (hts (.constant RL 25 (-9999002)) (by decide +kernel)) dL_refuses_581 ?_
    refine lv_icmp_ne (tgt := 735) hx hb dL_refuses_583 (by decide) (fun c22 => absurd (by decide) c22) (fun _ => ?_)
    refine lv_aload_n hx hb dL_refuses_586 rfl (lv_at hl 0 rfl) ?_
    refine lv_bipush (v := 17) hx hb dL_refuses_587 (by decide) ?_
    refine lv_iload hx hb dL_refuses_589 (lv_at hl 6 rfl) ?_
    refine lv_iconst (v := 0) hx hb dL_refuses_591 (by decide) ?_
    refine lv_iconst (v := 0) hx hb dL_refuses_592 (by decide) ?_
    refine cl_o1 (rSP (A := blk b (b + 170)) (As := [.ref b, .int 17, .int (nI (9 + n % 9)), .int 0, .int 0]) (rest := []) ⟨hx, hb, hml, hown, hts⟩ (c_call_17 l G b X (nI (9 + n % 9)) 0 0 (-9999002) X hst (no_gapIn (Or.inr (nI_lt (a := 8) (b := 9 + n % 9) (by omega) (by omega))))) (va_cwS 5 hts gL_refuses_L_call rfl rfl rfl (by decide +kernel) ⟨(Nat.le_of_ble_eq_true rfl), (Nat.le_of_ble_eq_true rfl)⟩) hP hO (thr_at hTh hS (fun q h => h)) hN rfl hl.1 (Nat.le_of_ble_eq_true rfl) dL_refuses_593 ⟨(Nat.le_of_ble_eq_true rfl), (Nat.le_of_ble_eq_true rfl)⟩) hS (fun q h => h) (fun H locs hP hS => ?_)
    refine lv_ldc (v := (-9999002)) hx hb hown (hts (.constant RL 25 (-9999002)) (by decide +kernel)) dL_refuses_596 ?_
    refine lv_icmp_ne (tgt := 735) hx hb dL_refuses_598 (by decide) (fun c23 => absurd (by decide) c23) (fun _ => ?_)
    refine lv_aload_n hx hb dL_refuses_601 rfl (lv_at hl 0 rfl) ?_
    refine lv_bipush (v := 18) hx hb dL_refuses_602 (by decide) ?_
    refine lv_iload hx hb dL_refuses_604 (lv_at hl 6 rfl) ?_
    refine lv_iconst (v := 0) hx hb dL_refuses_606 (by decide) ?_
    refine lv_iconst (v := 0) hx hb dL_refuses_607 (by decide) ?_
    refine cl_o1 (rSP (A := blk b (b + 170)) (As := [.ref b, .int 18, .int (nI (9 + n % 9)), .int 0, .int 0]) (rest := []) ⟨hx, hb, hml, hown, hts⟩ (c_call_18 l G b X (nI (9 + n % 9)) 0 0 (-9999002) X hst (no_mover 0 (Or.inr (nI_lt (a := 8) (b := 9 + n % 9) (by omega) (by omega))))) (va_cwS 5 hts gL_refuses_L_call rfl rfl rfl (by decide +kernel) ⟨(Nat.le_of_ble_eq_true rfl), (Nat.le_of_ble_eq_true rfl)⟩) hP hO (thr_at hTh hS (fun q h => h)) hN rfl hl.1 (Nat.le_of_ble_eq_true rfl) dL_refuses_608 ⟨(Nat.le_of_ble_eq_true rfl), (Nat.le_of_ble_eq_true rfl)⟩) hS (fun q h => h) (fun H locs hP hS => ?_)
    refine lv_ldc (v := (-9999002)) hx hb hown (hts (.constant RL 25 (-9999002)) (by decide +kernel)) dL_refuses_611 ?_
    refine lv_icmp_ne (tgt := 735) hx hb dL_refuses_613 (by decide) (fun c24 => absurd (by decide) c24) (fun _ => ?_)
    refine lv_aload_n hx hb dL_refuses_616 rfl (lv_at hl 0 rfl) ?_
    refine lv_bipush (v := 18) hx hb dL_refuses_617 (by decide) ?_
    refine lv_iconst (v := 5) hx hb dL_refuses_619 (by decide) ?_
    refine lv_iconst (v := 2) hx hb dL_refuses_620 (by decide) ?_
    refine lv_iload_n hx hb dL_refuses_621 rfl (lv_at hl 1 rfl) ?_
    refine lv_bipush (v := 9) hx hb dL_refuses_622 (by decide) ?_
    refine irem_n (a := n) (b := 9) hx hb ⟨by omega, by decide, by decide⟩ dL_refuses_624 ?_
    refine iadd_n (a := 2) (b := n % 9) hx hb dL_refuses_625 ?_
    refine lv_iconst (v := 0) hx hb dL_refuses_626 (by decide) ?_
    refine cl_o1 (rSP (A := blk b (b + 170)) (As := [.ref b, .int 18, .int 5, .int (nI (2 + (n % 9))), .int 0]) (rest := []) ⟨hx, hb, hml, hown, hts⟩ (c_call_18 l G b X 5 (nI (2 + (n % 9))) 0 (-9999002) X hst (no_mover_w (k := 2 + n % 9) (by omega) (by omega))) (va_cwS 5 hts gL_refuses_L_call rfl rfl rfl (by decide +kernel) ⟨(Nat.le_of_ble_eq_true rfl), (Nat.le_of_ble_eq_true rfl)⟩) hP hO (thr_at hTh hS (fun q h => h)) hN rfl hl.1 (Nat.le_of_ble_eq_true rfl) dL_refuses_627 ⟨(Nat.le_of_ble_eq_true rfl), (Nat.le_of_ble_eq_true rfl)⟩) hS (fun q h => h) (fun H locs hP hS => ?_)
    refine lv_ldc (v := (-9999002)) hx hb hown (hts (.constant RL 25 (-9999002)) (by decide +kernel)) dL_refuses_630 ?_
    refine lv_icmp_ne (tgt := 735) hx hb dL_refuses_632 (by decide) (fun c25 => absurd (by decide) c25) (fun _ => ?_)
    refine lv_aload_n hx hb dL_refuses_635 rfl (lv_at hl 0 rfl) ?_
    refine lv_iload hx hb dL_refuses_636 (lv_at hl 6 rfl) ?_
    refine lv_iload_n hx hb dL_refuses_638 rfl (lv_at hl 1 rfl) ?_
    refine lv_i2l (v := (nI n).toInt64) hx hb dL_refuses_639 rfl ?_
    refine cl_w1 (xSW (A := blk b (b + 170)) (As := [.ref b, .int (nI (9 + n % 9)), .long ((nI n).toInt64)]) (rest := []) ⟨hx, hb, hml, hown, hts⟩ (w_L_jams l G b X (nI (9 + n % 9)) ((nI n).toInt64) (-9999002) X hst (no_jam _ (Or.inr (nI_lt (a := 8) (b := 9 + n % 9) (by omega) (by omega))))) (vx_cwSW 3 hts gL_refuses_L_jams rfl rfl rfl (by decide +kernel) ⟨(Nat.le_of_ble_eq_true rfl), (Nat.le_of_ble_eq_true rfl)⟩) hP hO (thr_at hTh hS (fun q h => h)) hN rfl hl.1 (Nat.le_of_ble_eq_true rfl) dL_refuses_640 ⟨(Nat.le_of_ble_eq_true rfl), (Nat.le_of_ble_eq_true rfl)⟩) hS (fun q h => h) (fun H locs hP hS => ?_)
    refine lv_ldc (v := (-9999002)) hx hb hown (hts (.constant RL 25 (-9999002)) (by decide +kernel)) dL_refuses_643 ?_
    refine lv_icmp_ne (tgt := 735) hx hb dL_refuses_645 (by decide) (fun c26 => absurd (by decide) c26) (fun _ => ?_)
    refine lv_aload_n hx hb dL_refuses_648 rfl (lv_at hl 0 rfl) ?_
    refine lv_bipush (v := 19) hx hb dL_refuses_649 (by decide) ?_
    refine lv_iconst (v := 2) hx hb dL_refuses_651 (by decide) ?_
    refine lv_iload_n hx hb dL_refuses_652 rfl (lv_at hl 1 rfl) ?_
    refine lv_bipush (v := 50) hx hb dL_refuses_653 (by decide) ?_
    refine irem_n (a := n) (b := 50) hx hb ⟨by omega, by decide, by decide⟩ dL_refuses_655 ?_
    refine iadd_n (a := 2) (b := n % 50) hx hb dL_refuses_656 ?_
    refine lv_iconst (v := 0) hx hb dL_refuses_657 (by decide) ?_
    refine lv_iconst (v := 0) hx hb dL_refuses_658 (by decide) ?_
    refine cl_o1 (rSP (A := blk b (b + 170)) (As := [.ref b, .int 19, .int (nI (2 + (n % 50))), .int 0, .int 0]) (rest := []) ⟨hx, hb, hml, hown, hts⟩ (c_call_19 l G b X (nI (2 + (n % 50))) 0 0 (-9999001) X hst (no_save (k := 2 + n % 50) (by omega) (by omega))) (va_cwS 5 hts gL_refuses_L_call rfl rfl rfl (by decide +kernel) ⟨(Nat.le_of_ble_eq_true rfl), (Nat.le_of_ble_eq_true rfl)⟩) hP hO (thr_at hTh hS (fun q h => h)) hN rfl hl.1 (Nat.le_of_ble_eq_true rfl) dL_refuses_659 ⟨(Nat.le_of_ble_eq_true rfl), (Nat.le_of_ble_eq_true rfl)⟩) hS (fun q h => h) (fun H locs hP hS => ?_)
    refine lv_ldc (v := (-9999001)) hx hb hown (hts (.constant RL 15 (-9999001)) (by decide +kernel)) dL_refuses_662 ?_
    refine lv_icmp_ne (tgt := 735) hx hb dL_refuses_664 (by decide) (fun c27 => absurd (by decide) c27) (fun _ => ?_)
    refine lv_aload_n hx hb dL_refuses_667 rfl (lv_at hl 0 rfl) ?_
    refine lv_bipush (v := 20) hx hb dL_refuses_668 (by decide) ?_
    refine lv_iconst (v := -1) hx hb dL_refuses_670 (by decide) ?_
    refine lv_iload_n hx hb dL_refuses_671 rfl (lv_at hl 1 rfl) ?_
    refine lv_bipush (v := 9) hx hb dL_refuses_672 (by decide) ?_
    refine irem_n (a := n) (b := 9) hx hb ⟨by omega, by decide, by decide⟩ dL_refuses_674 ?_
    refine lv_isub hx hb dL_refuses_675 ?_
    refine lv_iconst (v := 0) hx hb dL_refuses_676 (by decide) ?_
    refine lv_iconst (v := 0) hx hb dL_refuses_677 (by decide) ?_
    refine cl_o1 (rSP (A := blk b (b + 170)) (As := [.ref b, .int 20, .int ((-1 : Int32) - (nI (n % 9))), .int 0, .int 0]) (rest := []) ⟨hx, hb, hml, hown, hts⟩ (c_call_20 l G b X ((-1 : Int32) - (nI (n % 9))) 0 0 (-9999001) X hst (no_restore (m1_sub (j := n % 9) (by omega)))) (va_cwS 5 hts gL_refuses_L_call rfl rfl rfl (by decide +kernel) ⟨(Nat.le_of_ble_eq_true rfl), (Nat.le_of_ble_eq_true rfl)⟩) hP hO (thr_at hTh hS (fun q h => h)) hN rfl hl.1 (Nat.le_of_ble_eq_true rfl) dL_refuses_678 ⟨(Nat.le_of_ble_eq_true rfl), (Nat.le_of_ble_eq_true rfl)⟩) hS (fun q h => h) (fun H locs hP hS => ?_)
    refine lv_ldc (v := (-9999001)) hx hb hown (hts (.constant RL 15 (-9999001)) (by decide +kernel)) dL_refuses_681 ?_
    refine lv_icmp_ne (tgt := 735) hx hb dL_refuses_683 (by decide) (fun c28 => absurd (by decide) c28) (fun _ => ?_)
    refine lv_aload_n hx hb dL_refuses_686 rfl (lv_at hl 0 rfl) ?_
    refine lv_iconst (v := 0) hx hb dL_refuses_687 (by decide) ?_
    refine lv_lconst (v := 0) hx hb dL_refuses_688 (by decide) ?_
    refine cl_w1 (xSW (A := blk b (b + 170)) (As := [.ref b, .int 0, .long 0]) (rest := []) ⟨hx, hb, hml, hown, hts⟩ (w_L_doScript l G b X 0 0 (-9999002) X hst no_script0) (vx_cwSW 3 hts gL_refuses_L_doScript rfl rfl rfl (by decide +kernel) ⟨(Nat.le_of_ble_eq_true rfl), (Nat.le_of_ble_eq_true rfl)⟩) hP hO (thr_at hTh hS (fun q h => h)) hN rfl hl.1 (Nat.le_of_ble_eq_true rfl) dL_refuses_689 ⟨(Nat.le_of_ble_eq_true rfl), (Nat.le_of_ble_eq_true rfl)⟩) hS (fun q h => h) (fun H locs hP hS => ?_)
    refine lv_ldc (v := (-9999002)) hx hb hown (hts (.constant RL 25 (-9999002)) (by decide +kernel)) dL_refuses_692 ?_
    refine lv_icmp_ne (tgt := 735) hx hb dL_refuses_694 (by decide) (fun c29 => absurd (by decide) c29) (fun _ => ?_)
    refine lv_aload_n hx hb dL_refuses_697 rfl (lv_at hl 0 rfl) ?_
    refine lv_iconst (v := 1) hx hb dL_refuses_698 (by decide) ?_
    refine lv_ldc2 (v := 1000000) hx hb hown (hts (.constantLong RL 184 (1000000)) (by decide +kernel)) dL_refuses_699 ?_
    refine lv_iload_n hx hb dL_refuses_702 rfl (lv_at hl 1 rfl) ?_
    refine lv_i2l (v := (nI n).toInt64) hx hb dL_refuses_703 rfl ?_
    refine lv_ladd hx hb dL_refuses_704 ?_
    refine cl_w1 (xSW (A := blk b (b + 170)) (As := [.ref b, .int 1, .long (1000000 + ((nI n).toInt64))]) (rest := []) ⟨hx, hb, hml, hown, hts⟩ (w_L_doScript l G b X 1 (1000000 + ((nI n).toInt64)) (-9999002) X hst (no_script1 (n := n) (by omega))) (vx_cwSW 3 hts gL_refuses_L_doScript rfl rfl rfl (by decide +kernel) ⟨(Nat.le_of_ble_eq_true rfl), (Nat.le_of_ble_eq_true rfl)⟩) hP hO (thr_at hTh hS (fun q h => h)) hN rfl hl.1 (Nat.le_of_ble_eq_true rfl) dL_refuses_705 ⟨(Nat.le_of_ble_eq_true rfl), (Nat.le_of_ble_eq_true rfl)⟩) hS (fun q h => h) (fun H locs hP hS => ?_)
    refine lv_ldc (v := (-9999002)) hx hb hown (hts (.constant RL 25 (-9999002)) (by decide +kernel)) dL_refuses_708 ?_
    refine lv_icmp_ne (tgt := 735) hx hb dL_refuses_710 (by decide) (fun c30 => absurd (by decide) c30) (fun _ => ?_)
    refine lv_aload_n hx hb dL_refuses_713 rfl (lv_at hl 0 rfl) ?_
    refine lv_iload_n hx hb dL_refuses_714 rfl (lv_at hl 1 rfl) ?_
    refine lv_i2l (v := (nI n).toInt64) hx hb dL_refuses_715 rfl ?_
    refine lv_bipush (v := 61) hx hb dL_refuses_716 (by decide) ?_
    refine lv_iload_n hx hb dL_refuses_718 rfl (lv_at hl 1 rfl) ?_
    refine lv_bipush (v := 9) hx hb dL_refuses_719 (by decide) ?_
    refine irem_n (a := n) (b := 9) hx hb ⟨by omega, by decide, by decide⟩ dL_refuses_721 ?_
    refine iadd_n (a := 61) (b := n % 9) hx hb dL_refuses_722 ?_
    refine cl_w1 (xSW (A := blk b (b + 170)) (As := [.ref b, .long ((nI n).toInt64), .int (nI (61 + (n % 9)))]) (rest := []) ⟨hx, hb, hml, hown, hts⟩ (w_L_doSimulate l G b X ((nI n).toInt64) (nI (61 + (n % 9))) (-9999002) X hst (no_sim _ (k := 61 + n % 9) (by omega) (by omega))) (vx_cwSW 3 hts gL_refuses_L_doSimulate rfl rfl rfl (by decide +kernel) ⟨(Nat.le_of_ble_eq_true rfl), (Nat.le_of_ble_eq_true rfl)⟩) hP hO (thr_at hTh hS (fun q h => h)) hN rfl hl.1 (Nat.le_of_ble_eq_true rfl) dL_refuses_723 ⟨(Nat.le_of_ble_eq_true rfl), (Nat.le_of_ble_eq_true rfl)⟩) hS (fun q h => h) (fun H locs hP hS => ?_)
    refine lv_ldc (v := (-9999002)) hx hb hown (hts (.constant RL 25 (-9999002)) (by decide +kernel)) dL_refuses_726 ?_
    refine lv_icmp_ne (tgt := 735) hx hb dL_refuses_728 (by decide) (fun c31 => absurd (by decide) c31) (fun _ => ?_)
    refine lv_iconst (v := 1) hx hb dL_refuses_731 (by decide) ?_
    refine lv_goto (tgt := 736) hx hb dL_refuses_732 (by decide) ?_
    refine lv_istore (lv' := [(7, .int 1), (0, .ref b), (1, .int (nI n)), (2, .int (nI (gm (mN M)))), (3, .int (nI (gm (mN M) + n % 99))), (4, .int (nI (80 + n % 99))), (5, .int (nI (f_X7_gaps (mN M)))), (6, .int (nI (9 + n % 9)))]) hx hb dL_refuses_736 hl (by decide) rfl (fun ls hl => ?_)
    refine lv_aload_n hx hb dL_refuses_738 rfl (lv_at hl 1 rfl) ?_
    refine lv_iconst (v := 3) hx hb dL_refuses_739 (by decide) ?_
    refine lv_iconst (v := 0) hx hb dL_refuses_740 (by decide) ?_
    refine lv_iconst (v := 3) hx hb dL_refuses_741 (by decide) ?_
    refine lv_iconst (v := 0) hx hb dL_refuses_742 (by decide) ?_
    refine cl_o1 (rSP (A := blk b (b + 170)) (As := [.ref b, .int 3, .int 0, .int 3, .int 0]) (rest := []) ⟨hx, hb, hml, hown, hts⟩ (c_call_3 l G b X 0 3 0 (f_X7_of (mN M) 0 3) X hst (rd_car3 RX (c := 0) (by omega))) (va_cwS 5 hts gL_refuses_L_call rfl rfl rfl (by decide +kernel) ⟨(Nat.le_of_ble_eq_true rfl), (Nat.le_of_ble_eq_true rfl)⟩) hP hO (thr_at hTh hS (fun q h => h)) hN rfl hl.1 (Nat.le_of_ble_eq_true rfl) dL_refuses_743 ⟨(Nat.le_of_ble_eq_true rfl), (Nat.le_of_ble_eq_true rfl)⟩) hS (fun q h => h) (fun H locs hP hS => ?_)
    refine lv_istore (lv' := [(8, .int (f_X7_of (mN M) 0 3)), (7, .int 1), (0, .ref b), (1, .int (nI n)), (2, .int (nI (gm (mN M)))), (3, .int (nI (gm (mN M) + n % 99))), (4, .int (nI (80 + n % 99))), (5, .int (nI (f_X7_gaps (mN M)))), (6, .int (nI (9 + n % 9)))]) hx hb dL_refuses_746 hl (by decide) rfl (fun ls hl => ?_)
    refine lv_iload hx hb dL_refuses_748 (lv_at hl 1 rfl) ?_
    refine lv_if_eq (tgt := 855) hx hb dL_refuses_750 (by decide) (fun c32 => absurd c32 (by decide)) (fun _ => ?_)
    refine lv_iload_n hx hb dL_refuses_753 rfl (lv_at hl 4 rfl) ?_
    refine lv_bipush (v := 40) hx hb dL_refuses_754 (by decide) ?_
    refine lv_icmp_lt (tgt := 773) hx hb dL_refuses_756 (by decide) (fun c33 => ?_) (fun c33 => ?_)
    · have c33f : gm (mN M) < 40 := (nI_ltI (a := gm (mN M)) (b := 40) (by omega) (by omega)).mp c33
      refine lv_iload hx hb dL_refuses_773 (lv_at hl 0 rfl) ?_
      refine lv_iconst (v := -1) hx hb dL_refuses_775 (by decide) ?_
      refine lv_icmp_ne (tgt := 824) hx hb dL_refuses_776 (by decide) (fun c34 => ?_) (fun c34 => ?_)
      · have hpk := at_pk RX.nw.2 (c := 0) (by omega) c34
        obtain ⟨ep0, -, h80⟩ := RX.nw.2.ri.X (c := 0) (by omega) hpk
        have hj0 := (RX.nw.2.ri.J (c := 0) (by omega)).2
        rw [ep0] at hl
        refine lv_aload_n hx hb dL_refuses_824 rfl (lv_at hl 2 rfl) ?_
        refine lv_iload hx hb dL_refuses_825 (lv_at hl 0 rfl) ?_
        refine lv_iconst (v := 1) hx hb dL_refuses_827 (by decide) ?_
        refine cl_w1 (xSW (A := blk b (b + 170)) (As := [.ref b, .int (nI (px (mN M) 0)), .int 1]) (rest := []) ⟨hx, hb, hml, hown, hts⟩ (w_L_hydrants l G b X (nI (px (mN M) 0)) 1 (-9999003) X hst (RX).ho (RX).hk (no_hydrant_c RX (c := 0) (x := px (mN M) 0) (by omega) (by omega) (RX.nw.2.pc 0 (by omega) hpk _ ⟨Nat.le_refl _, by omega⟩))) (vx_cwSW 3 hts gL_refuses_L_hydrants rfl rfl rfl (by decide +kernel) ⟨(Nat.le_of_ble_eq_true rfl), (Nat.le_of_ble_eq_true rfl)⟩) hP hO (thr_at hTh hS (fun q h => h)) hN rfl hl.1 (Nat.le_of_ble_eq_true rfl) dL_refuses_828 ⟨(Nat.le_of_ble_eq_true rfl), (Nat.le_of_ble_eq_true rfl)⟩) hS (fun q h => h) (fun H locs hP hS => ?_)
        refine lv_ldc (v := (-9999003)) hx hb hown (hts (.constant RL 18 (-9999003)) (by decide +kernel)) dL_refuses_831 ?_
        refine lv_icmp_ne (tgt := 855) hx hb dL_refuses_833 (by decide) (fun c35 => absurd (by decide) c35) (fun _ => ?_)
        refine lv_aload_n hx hb dL_refuses_836 rfl (lv_at hl 2 rfl) ?_
        refine lv_bipush (v := 10) hx hb dL_refuses_837 (by decide) ?_
        refine lv_iconst (v := 0) hx hb dL_refuses_839 (by decide) ?_
        refine lv_bipush (v := 79) hx hb dL_refuses_840 (by decide) ?_
        refine lv_iconst (v := 0) hx hb dL_refuses_842 (by decide) ?_
        refine cl_o1 (rSP (A := blk b (b + 170)) (As := [.ref b, .int 10, .int 0, .int 79, .int 0]) (rest := []) ⟨hx, hb, hml, hown, hts⟩ (c_call_10 l G b X 0 79 0 (-9999003) X hst (RX).ho (RX).hk (no_move_s RX (c := 0) (x := 79) (by omega) (by omega) (move_79 RX.nw.2 (by omega)))) (va_cwS 5 hts gL_refuses_L_call rfl rfl rfl (by decide +kernel) ⟨(Nat.le_of_ble_eq_true rfl), (Nat.le_of_ble_eq_true rfl)⟩) hP hO (thr_at hTh hS (fun q h => h)) hN rfl hl.1 (Nat.le_of_ble_eq_true rfl) dL_refuses_843 ⟨(Nat.le_of_ble_eq_true rfl), (Nat.le_of_ble_eq_true rfl)⟩) hS (fun q h => h) (fun H locs hP hS => ?_)
        refine lv_ldc (v := (-9999003)) hx hb hown (hts (.constant RL 18 (-9999003)) (by decide +kernel)) dL_refuses_846 ?_
        refine lv_icmp_ne (tgt := 855) hx hb dL_refuses_848 (by decide) (fun c36 => absurd (by decide) c36) (fun _ => ?_)
        refine lv_iconst (v := 1) hx hb dL_refuses_851 (by decide) ?_
        refine lv_goto (tgt := 856) hx hb dL_refuses_852 (by decide) ?_
        exact W.widen (k := 50) (n := 300) (Nat.le_of_ble_eq_true rfl) (Nat.le_of_ble_eq_true rfl) (W.zret (ty := .boolean) hx hb hr rfl (fun t ht hW => ⟨rfl, by rw [ht]; exact hP, hS.F ht⟩) hS.2.2 dL_refuses_856)
      · have hnp : ¬ f_X7_of (mN M) 0 2 = 0 := fun z => by
          rw [(RX.nw.2.ri.X (c := 0) (by omega) z).1] at c34
          exact nI_m1 (by have := (RX.nw.2.ri.X (c := 0) (by omega) z).2.2; omega) c34
        refine lv_aload_n hx hb dL_refuses_779 rfl (lv_at hl 2 rfl) ?_
        refine lv_bipush (v := 8) hx hb dL_refuses_780 (by decide) ?_
        refine lv_iconst (v := 0) hx hb dL_refuses_782 (by decide) ?_
        refine lv_iconst (v := 0) hx hb dL_refuses_783 (by decide) ?_
        refine lv_iconst (v := 0) hx hb dL_refuses_784 (by decide) ?_
        refine cl_o1 (rSP (A := blk b (b + 170)) (As := [.ref b, .int 8, .int 0, .int 0, .int 0]) (rest := []) ⟨hx, hb, hml, hown, hts⟩ (c_call_8 l G b X 0 0 0 (-9999003) X hst (RX).ho (RX).hk (no_leave_p RX (c := 0) (by omega) hnp)) (va_cwS 5 hts gL_refuses_L_call rfl rfl rfl (by decide +kernel) ⟨(Nat.le_of_ble_eq_true rfl), (Nat.le_of_ble_eq_true rfl)⟩) hP hO (thr_at hTh hS (fun q h => h)) hN rfl hl.1 (Nat.le_of_ble_eq_true rfl) dL_refuses_785 ⟨(Nat.le_of_ble_eq_true rfl), (Nat.le_of_ble_eq_true rfl)⟩) hS (fun q h => h) (fun H locs hP hS => ?_)
        refine lv_ldc (v := (-9999003)) hx hb hown (hts (.constant RL 18 (-9999003)) (by decide +kernel)) dL_refuses_788 ?_
        refine lv_icmp_ne (tgt := 855) hx hb dL_refuses_790 (by decide) (fun c37 => absurd (by decide) c37) (fun _ => ?_)
        refine lv_aload_n hx hb dL_refuses_793 rfl (lv_at hl 2 rfl) ?_
        refine lv_bipush (v := 9) hx hb dL_refuses_794 (by decide) ?_
        refine lv_iconst (v := 0) hx hb dL_refuses_796 (by decide) ?_
        refine lv_iconst (v := 0) hx hb dL_refuses_797 (by decide) ?_
        refine lv_iconst (v := 0) hx hb dL_refuses_798 (by decide) ?_
        refine cl_o1 (rSP (A := blk b (b + 170)) (As := [.ref b, .int 9, .int 0, .int 0, .int 0]) (rest := []) ⟨hx, hb, hml, hown, hts⟩ (c_call_9 l G b X 0 0 0 (-9999003) X hst (RX).ho (RX).hk (no_tow_p RX (c := 0) (by omega) hnp)) (va_cwS 5 hts gL_refuses_L_call rfl rfl rfl (by decide +kernel) ⟨(Nat.le_of_ble_eq_true rfl), (Nat.le_of_ble_eq_true rfl)⟩) hP hO (thr_at hTh hS (fun q h => h)) hN rfl hl.1 (Nat.le_of_ble_eq_true rfl) dL_refuses_799 ⟨(Nat.le_of_ble_eq_true rfl), (Nat.le_of_ble_eq_true rfl)⟩) hS (fun q h => h) (fun H locs hP hS => ?_)
        refine lv_ldc (v := (-9999003)) hx hb hown (hts (.constant RL 18 (-9999003)) (by decide +kernel)) dL_refuses_802 ?_
        refine lv_icmp_ne (tgt := 855) hx hb dL_refuses_804 (by decide) (fun c38 => absurd (by decide) c38) (fun _ => ?_)
        refine lv_aload_n hx hb dL_refuses_807 rfl (lv_at hl 2 rfl) ?_
        refine lv_bipush (v := 10) hx hb dL_refuses_808 (by decide) ?_
        refine lv_iconst (v := 0) hx hb dL_refuses_810 (by decide) ?_
        refine lv_iconst (v := 0) hx hb dL_refuses_811 (by decide) ?_
        refine lv_iconst (v := 0) hx hb dL_refuses_812 (by decide) ?_
        refine cl_o1 (rSP (A := blk b (b + 170)) (As := [.ref b, .int 10, .int 0, .int 0, .int 0]) (rest := []) ⟨hx, hb, hml, hown, hts⟩ (c_call_10 l G b X 0 0 0 (-9999003) X hst (RX).ho (RX).hk (no_move_s RX (c := 0) (x := 0) (by omega) (by omega) (move_np RX.nw.2.ri (by omega) hnp))) (va_cwS 5 hts gL_refuses_L_call rfl rfl rfl (by decide +kernel) ⟨(Nat.le_of_ble_eq_true rfl), (Nat.le_of_ble_eq_true rfl)⟩) hP hO (thr_at hTh hS (fun q h => h)) hN rfl hl.1 (Nat.le_of_ble_eq_true rfl) dL_refuses_813 ⟨(Nat.le_of_ble_eq_true rfl), (Nat.le_of_ble_eq_true rfl)⟩) hS (fun q h => h) (fun H locs hP hS => ?_)
        refine lv_ldc (v := (-9999003)) hx hb hown (hts (.constant RL 18 (-9999003)) (by decide +kernel)) dL_refuses_816 ?_
        refine lv_icmp_ne (tgt := 855) hx hb dL_refuses_818 (by decide) (fun c39 => absurd (by decide) c39) (fun _ => ?_)
        refine lv_goto (tgt := 851) hx hb dL_refuses_821 (by decide) ?_
        refine lv_iconst (v := 1) hx hb dL_refuses_851 (by decide) ?_
        refine lv_goto (tgt := 856) hx hb dL_refuses_852 (by decide) ?_
        exact W.widen (k := 50) (n := 300) (Nat.le_of_ble_eq_true rfl) (Nat.le_of_ble_eq_true rfl) (W.zret (ty := .boolean) hx hb hr rfl (fun t ht hW => ⟨rfl, by rw [ht]; exact hP, hS.F ht⟩) hS.2.2 dL_refuses_856)
    · have c33f : ¬ (gm (mN M)) < 40 := fun z => c33 ((nI_ltI (a := gm (mN M)) (b := 40) (by omega) (by omega)).mpr z)
      refine lv_aload_n hx hb dL_refuses_759 rfl (lv_at hl 2 rfl) ?_
      refine lv_bipush (v := 7) hx hb dL_refuses_760 (by decide) ?_
      refine lv_iconst (v := 5) hx hb dL_refuses_762 (by decide) ?_
      refine lv_iconst (v := 5) hx hb dL_refuses_763 (by decide) ?_
      refine lv_iconst (v := 0) hx hb dL_refuses_764 (by decide) ?_
      refine cl_o1 (rSP (A := blk b (b + 170)) (As := [.ref b, .int 7, .int 5, .int 5, .int 0]) (rest := []) ⟨hx, hb, hml, hown, hts⟩ (c_call_7 l G b X 5 5 0 (-9999003) X hst (RX).ho (RX).hk (no_come_40 RX (by omega))) (va_cwS 5 hts gL_refuses_L_call rfl rfl rfl (by decide +kernel) ⟨(Nat.le_of_ble_eq_true rfl), (Nat.le_of_ble_eq_true rfl)⟩) hP hO (thr_at hTh hS (fun q h => h)) hN rfl hl.1 (Nat.le_of_ble_eq_true rfl) dL_refuses_765 ⟨(Nat.le_of_ble_eq_true rfl), (Nat.le_of_ble_eq_true rfl)⟩) hS (fun q h => h) (fun H locs hP hS => ?_)
      refine lv_ldc (v := (-9999003)) hx hb hown (hts (.constant RL 18 (-9999003)) (by decide +kernel)) dL_refuses_768 ?_
      refine lv_icmp_ne (tgt := 855) hx hb dL_refuses_770 (by decide) (fun c40 => absurd (by decide) c40) (fun _ => ?_)
      refine lv_iload hx hb dL_refuses_773 (lv_at hl 0 rfl) ?_
      refine lv_iconst (v := -1) hx hb dL_refuses_775 (by decide) ?_
      refine lv_icmp_ne (tgt := 824) hx hb dL_refuses_776 (by decide) (fun c41 => ?_) (fun c41 => ?_)
      · have hpk := at_pk RX.nw.2 (c := 0) (by omega) c41
        obtain ⟨ep0, -, h80⟩ := RX.nw.2.ri.X (c := 0) (by omega) hpk
        have hj0 := (RX.nw.2.ri.J (c := 0) (by omega)).2
        rw [ep0] at hl
        refine lv_aload_n hx hb dL_refuses_824 rfl (lv_at hl 2 rfl) ?_
        refine lv_iload hx hb dL_refuses_825 (lv_at hl 0 rfl) ?_
        refine lv_iconst (v := 1) hx hb dL_refuses_827 (by decide) ?_
        refine cl_w1 (xSW (A := blk b (b + 170)) (As := [.ref b, .int (nI (px (mN M) 0)), .int 1]) (rest := []) ⟨hx, hb, hml, hown, hts⟩ (w_L_hydrants l G b X (nI (px (mN M) 0)) 1 (-9999003) X hst (RX).ho (RX).hk (no_hydrant_c RX (c := 0) (x := px (mN M) 0) (by omega) (by omega) (RX.nw.2.pc 0 (by omega) hpk _ ⟨Nat.le_refl _, by omega⟩))) (vx_cwSW 3 hts gL_refuses_L_hydrants rfl rfl rfl (by decide +kernel) ⟨(Nat.le_of_ble_eq_true rfl), (Nat.le_of_ble_eq_true rfl)⟩) hP hO (thr_at hTh hS (fun q h => h)) hN rfl hl.1 (Nat.le_of_ble_eq_true rfl) dL_refuses_828 ⟨(Nat.le_of_ble_eq_true rfl), (Nat.le_of_ble_eq_true rfl)⟩) hS (fun q h => h) (fun H locs hP hS => ?_)
        refine lv_ldc (v := (-9999003)) hx hb hown (hts (.constant RL 18 (-9999003)) (by decide +kernel)) dL_refuses_831 ?_
        refine lv_icmp_ne (tgt := 855) hx hb dL_refuses_833 (by decide) (fun c42 => absurd (by decide) c42) (fun _ => ?_)
        refine lv_aload_n hx hb dL_refuses_836 rfl (lv_at hl 2 rfl) ?_
        refine lv_bipush (v := 10) hx hb dL_refuses_837 (by decide) ?_
        refine lv_iconst (v := 0) hx hb dL_refuses_839 (by decide) ?_
        refine lv_bipush (v := 79) hx hb dL_refuses_840 (by decide) ?_
        refine lv_iconst (v := 0) hx hb dL_refuses_842 (by decide) ?_
        refine cl_o1 (rSP (A := blk b (b + 170)) (As := [.ref b, .int 10, .int 0, .int 79, .int 0]) (rest := []) ⟨hx, hb, hml, hown, hts⟩ (c_call_10 l G b X 0 79 0 (-9999003) X hst (RX).ho (RX).hk (no_move_s RX (c := 0) (x := 79) (by omega) (by omega) (move_79 RX.nw.2 (by omega)))) (va_cwS 5 hts gL_refuses_L_call rfl rfl rfl (by decide +kernel) ⟨(Nat.le_of_ble_eq_true rfl), (Nat.le_of_ble_eq_true rfl)⟩) hP hO (thr_at hTh hS (fun q h => h)) hN rfl hl.1 (Nat.le_of_ble_eq_true rfl) dL_refuses_843 ⟨(Nat.le_of_ble_eq_true rfl), (Nat.le_of_ble_eq_true rfl)⟩) hS (fun q h => h) (fun H locs hP hS => ?_)
        refine lv_ldc (v := (-9999003)) hx hb hown (hts (.constant RL 18 (-9999003)) (by decide +kernel)) dL_refuses_846 ?_
        refine lv_icmp_ne (tgt := 855) hx hb dL_refuses_848 (by decide) (fun c43 => absurd (by decide) c43) (fun _ => ?_)
        refine lv_iconst (v := 1) hx hb dL_refuses_851 (by decide) ?_
        refine lv_goto (tgt := 856) hx hb dL_refuses_852 (by decide) ?_
        exact W.widen (k := 50) (n := 300) (Nat.le_of_ble_eq_true rfl) (Nat.le_of_ble_eq_true rfl) (W.zret (ty := .boolean) hx hb hr rfl (fun t ht hW => ⟨rfl, by rw [ht]; exact hP, hS.F ht⟩) hS.2.2 dL_refuses_856)
      · have hnp : ¬ f_X7_of (mN M) 0 2 = 0 := fun z => by
          rw [(RX.nw.2.ri.X (c := 0) (by omega) z).1] at c41
          exact nI_m1 (by have := (RX.nw.2.ri.X (c := 0) (by omega) z).2.2; omega) c41
        refine lv_aload_n hx hb dL_refuses_779 rfl (lv_at hl 2 rfl) ?_
        refine lv_bipush (v := 8) hx hb dL_refuses_780 (by decide) ?_
        refine lv_iconst (v := 0) hx hb dL_refuses_782 (by decide) ?_
        refine lv_iconst (v := 0) hx hb dL_refuses_783 (by decide) ?_
        refine lv_iconst (v := 0) hx hb dL_refuses_784 (by decide) ?_
        refine cl_o1 (rSP (A := blk b (b + 170)) (As := [.ref b, .int 8, .int 0, .int 0, .int 0]) (rest := []) ⟨hx, hb, hml, hown, hts⟩ (c_call_8 l G b X 0 0 0 (-9999003) X hst (RX).ho (RX).hk (no_leave_p RX (c := 0) (by omega) hnp)) (va_cwS 5 hts gL_refuses_L_call rfl rfl rfl (by decide +kernel) ⟨(Nat.le_of_ble_eq_true rfl), (Nat.le_of_ble_eq_true rfl)⟩) hP hO (thr_at hTh hS (fun q h => h)) hN rfl hl.1 (Nat.le_of_ble_eq_true rfl) dL_refuses_785 ⟨(Nat.le_of_ble_eq_true rfl), (Nat.le_of_ble_eq_true rfl)⟩) hS (fun q h => h) (fun H locs hP hS => ?_)
        refine lv_ldc (v := (-9999003)) hx hb hown (hts (.constant RL 18 (-9999003)) (by decide +kernel)) dL_refuses_788 ?_
        refine lv_icmp_ne (tgt := 855) hx hb dL_refuses_790 (by decide) (fun c44 => absurd (by decide) c44) (fun _ => ?_)
        refine lv_aload_n hx hb dL_refuses_793 rfl (lv_at hl 2 rfl) ?_
        refine lv_bipush (v := 9) hx hb dL_refuses_794 (by decide) ?_
        refine lv_iconst (v := 0) hx hb dL_refuses_796 (by decide) ?_
        refine lv_iconst (v := 0) hx hb dL_refuses_797 (by decide) ?_
        refine lv_iconst (v := 0) hx hb dL_refuses_798 (by decide) ?_
        refine cl_o1 (rSP (A := blk b (b + 170)) (As := [.ref b, .int 9, .int 0, .int 0, .int 0]) (rest := []) ⟨hx, hb, hml, hown, hts⟩ (c_call_9 l G b X 0 0 0 (-9999003) X hst (RX).ho (RX).hk (no_tow_p RX (c := 0) (by omega) hnp)) (va_cwS 5 hts gL_refuses_L_call rfl rfl rfl (by decide +kernel) ⟨(Nat.le_of_ble_eq_true rfl), (Nat.le_of_ble_eq_true rfl)⟩) hP hO (thr_at hTh hS (fun q h => h)) hN rfl hl.1 (Nat.le_of_ble_eq_true rfl) dL_refuses_799 ⟨(Nat.le_of_ble_eq_true rfl), (Nat.le_of_ble_eq_true rfl)⟩) hS (fun q h => h) (fun H locs hP hS => ?_)
        refine lv_ldc (v := (-9999003)) hx hb hown (hts (.constant RL 18 (-9999003)) (by decide +kernel)) dL_refuses_802 ?_
        refine lv_icmp_ne (tgt := 855) hx hb dL_refuses_804 (by decide) (fun c45 => absurd (by decide) c45) (fun _ => ?_)
        refine lv_aload_n hx hb dL_refuses_807 rfl (lv_at hl 2 rfl) ?_
        refine lv_bipush (v := 10) hx hb dL_refuses_808 (by decide) ?_
        refine lv_iconst (v := 0) hx hb dL_refuses_810 (by decide) ?_
        refine lv_iconst (v := 0) hx hb dL_refuses_811 (by decide) ?_
        refine lv_iconst (v := 0) hx hb dL_refuses_812 (by decide) ?_
        refine cl_o1 (rSP (A := blk b (b + 170)) (As := [.ref b, .int 10, .int 0, .int 0, .int 0]) (rest := []) ⟨hx, hb, hml, hown, hts⟩ (c_call_10 l G b X 0 0 0 (-9999003) X hst (RX).ho (RX).hk (no_move_s RX (c := 0) (x := 0) (by omega) (by omega) (move_np RX.nw.2.ri (by omega) hnp))) (va_cwS 5 hts gL_refuses_L_call rfl rfl rfl (by decide +kernel) ⟨(Nat.le_of_ble_eq_true rfl), (Nat.le_of_ble_eq_true rfl)⟩) hP hO (thr_at hTh hS (fun q h => h)) hN rfl hl.1 (Nat.le_of_ble_eq_true rfl) dL_refuses_813 ⟨(Nat.le_of_ble_eq_true rfl), (Nat.le_of_ble_eq_true rfl)⟩) hS (fun q h => h) (fun H locs hP hS => ?_)
        refine lv_ldc (v := (-9999003)) hx hb hown (hts (.constant RL 18 (-9999003)) (by decide +kernel)) dL_refuses_816 ?_
        refine lv_icmp_ne (tgt := 855) hx hb dL_refuses_818 (by decide) (fun c46 => absurd (by decide) c46) (fun _ => ?_)
        refine lv_goto (tgt := 851) hx hb dL_refuses_821 (by decide) ?_
        refine lv_iconst (v := 1) hx hb dL_refuses_851 (by decide) ?_
        refine lv_goto (tgt := 856) hx hb dL_refuses_852 (by decide) ?_
        exact W.widen (k := 50) (n := 300) (Nat.le_of_ble_eq_true rfl) (Nat.le_of_ble_eq_true rfl) (W.zret (ty := .boolean) hx hb hr rfl (fun t ht hW => ⟨rfl, by rw [ht]; exact hP, hS.F ht⟩) hS.2.2 dL_refuses_856)
  refine lv_aload_n hx hb dL_refuses_0 rfl (lv_at hl 0 rfl) ?_
  refine lv_iconst (v := 2) hx hb dL_refuses_1 (by decide) ?_
  refine lv_iconst (v := 0) hx hb dL_refuses_2 (by decide) ?_
  refine lv_iconst (v := 0) hx hb dL_refuses_3 (by decide) ?_
  refine lv_iconst (v := 0) hx hb dL_refuses_4 (by decide) ?_
  refine cl_o1 (rSP (A := blk b (b + 170)) (As := [.ref b, .int 2, .int 0, .int 0, .int 0]) (rest := []) ⟨hx, hb, hml, hown, hts⟩ (c_call_2 l G b X 0 0 0 (nI (gm (mN M))) X hst (rd_ab0 RX)) (va_cwS 5 hts gL_refuses_L_call rfl rfl rfl (by decide +kernel) ⟨(Nat.le_of_ble_eq_true rfl), (Nat.le_of_ble_eq_true rfl)⟩) hP hO (thr_at hTh hS (fun q h => h)) hN rfl hl.1 (Nat.le_of_ble_eq_true rfl) dL_refuses_5 ⟨(Nat.le_of_ble_eq_true rfl), (Nat.le_of_ble_eq_true rfl)⟩) hS (fun q h => h) (fun H locs hP hS => ?_)
  refine lv_istore_n (lv' := [(2, .int (nI (gm (mN M)))), (0, .ref b), (1, .int (nI n))]) hx hb dL_refuses_8 rfl hl (by decide) rfl (fun ls hl => ?_)
  refine lv_iload_n hx hb dL_refuses_9 rfl (lv_at hl 2 rfl) ?_
  refine lv_iconst (v := 2) hx hb dL_refuses_10 (by decide) ?_
  refine irem_n (a := n) (b := 2) hx hb ⟨by omega, by decide, by decide⟩ dL_refuses_11 ?_
  refine lv_if_ne (tgt := 24) hx hb dL_refuses_12 (by decide) (fun _ => ?_) (fun c47 => absurd c47 (fun z => absurd (nI_inj (a := n % 2) (b := 0) (by omega) (by omega) z) (by omega)))
  refine lv_iload_n hx hb dL_refuses_24 rfl (lv_at hl 0 rfl) ?_
  refine lv_iload_n hx hb dL_refuses_25 rfl (lv_at hl 2 rfl) ?_
  refine lv_bipush (v := 99) hx hb dL_refuses_26 (by decide) ?_
  refine irem_n (a := n) (b := 99) hx hb ⟨by omega, by decide, by decide⟩ dL_refuses_28 ?_
  refine iadd_n (a := gm (mN M)) (b := n % 99) hx hb dL_refuses_29 ?_
  refine lv_istore_n (lv' := [(3, .int (nI ((gm (mN M)) + (n % 99)))), (2, .int (nI (gm (mN M)))), (0, .ref b), (1, .int (nI n))]) hx hb dL_refuses_30 rfl hl (by decide) rfl (fun ls hl => ?_)
  refine lv_iload_n hx hb dL_refuses_31 rfl (lv_at hl 3 rfl) ?_
  refine lv_iconst (v := 2) hx hb dL_refuses_32 (by decide) ?_
  refine irem_n (a := n) (b := 2) hx hb ⟨by omega, by decide, by decide⟩ dL_refuses_33 ?_
  refine lv_if_ne (tgt := 46) hx hb dL_refuses_34 (by decide) (fun _ => ?_) (fun c48 => absurd c48 (fun z => absurd (nI_inj (a := n % 2) (b := 0) (by omega) (by omega) z) (by omega)))
  refine lv_bipush (v := 80) hx hb dL_refuses_46 (by decide) ?_
  refine lv_iload_n hx hb dL_refuses_48 rfl (lv_at hl 3 rfl) ?_
  refine lv_bipush (v := 99) hx hb dL_refuses_49 (by decide) ?_
  refine irem_n (a := n) (b := 99) hx hb ⟨by omega, by decide, by decide⟩ dL_refuses_51 ?_
  refine iadd_n (a := 80) (b := n % 99) hx hb dL_refuses_52 ?_
  refine lv_istore (lv' := [(4, .int (nI (80 + (n % 99)))), (3, .int (nI ((gm (mN M)) + (n % 99)))), (2, .int (nI (gm (mN M)))), (0, .ref b), (1, .int (nI n))]) hx hb dL_refuses_53 hl (by decide) rfl (fun ls hl => ?_)
  refine lv_aload_n hx hb dL_refuses_55 rfl (lv_at hl 3 rfl) ?_
  refine lv_iconst (v := 2) hx hb dL_refuses_56 (by decide) ?_
  refine lv_bipush (v := 7) hx hb dL_refuses_57 (by decide) ?_
  refine lv_iconst (v := 0) hx hb dL_refuses_59 (by decide) ?_
  refine lv_iconst (v := 0) hx hb dL_refuses_60 (by decide) ?_
  refine cl_o1 (rSP (A := blk b (b + 170)) (As := [.ref b, .int 2, .int 7, .int 0, .int 0]) (rest := []) ⟨hx, hb, hml, hown, hts⟩ (c_call_2 l G b X 7 0 0 (nI (f_X7_gaps (mN M))) X hst (rd_ab7 RX)) (va_cwS 5 hts gL_refuses_L_call rfl rfl rfl (by decide +kernel) ⟨(Nat.le_of_ble_eq_true rfl), (Nat.le_of_ble_eq_true rfl)⟩) hP hO (thr_at hTh hS (fun q h => h)) hN rfl hl.1 (Nat.le_of_ble_eq_true rfl) dL_refuses_61 ⟨(Nat.le_of_ble_eq_true rfl), (Nat.le_of_ble_eq_true rfl)⟩) hS (fun q h => h) (fun H locs hP hS => ?_)
  refine lv_istore (lv' := [(5, .int (nI (f_X7_gaps (mN M)))), (4, .int (nI (80 + (n % 99)))), (3, .int (nI ((gm (mN M)) + (n % 99)))), (2, .int (nI (gm (mN M)))), (0, .ref b), (1, .int (nI n))]) hx hb dL_refuses_64 hl (by decide) rfl (fun ls hl => ?_)
  refine lv_iload_n hx hb dL_refuses_66 rfl (lv_at hl 5 rfl) ?_
  refine lv_iconst (v := 2) hx hb dL_refuses_67 (by decide) ?_
  refine irem_n (a := n) (b := 2) hx hb ⟨by omega, by decide, by decide⟩ dL_refuses_68 ?_
  refine lv_if_ne (tgt := 81) hx hb dL_refuses_69 (by decide) (fun _ => ?_) (fun c49 => absurd c49 (fun z => absurd (nI_inj (a := n % 2) (b := 0) (by omega) (by omega) z) (by omega)))
  refine lv_bipush (v := 9) hx hb dL_refuses_81 (by decide) ?_
  refine lv_iload_n hx hb dL_refuses_83 rfl (lv_at hl 5 rfl) ?_
  refine lv_bipush (v := 9) hx hb dL_refuses_84 (by decide) ?_
  refine irem_n (a := n) (b := 9) hx hb ⟨by omega, by decide, by decide⟩ dL_refuses_86 ?_
  refine iadd_n (a := 9) (b := n % 9) hx hb dL_refuses_87 ?_
  refine lv_istore (lv' := [(6, .int (nI (9 + (n % 9)))), (5, .int (nI (f_X7_gaps (mN M)))), (4, .int (nI (80 + (n % 99)))), (3, .int (nI ((gm (mN M)) + (n % 99)))), (2, .int (nI (gm (mN M)))), (0, .ref b), (1, .int (nI n))]) hx hb dL_refuses_88 hl (by decide) rfl (fun ls hl => ?_)
  refine lv_aload_n hx hb dL_refuses_90 rfl (lv_at hl 5 rfl) ?_
  refine lv_iconst (v := 0) hx hb dL_refuses_91 (by decide) ?_
  refine lv_iload_n hx hb dL_refuses_92 rfl (lv_at hl 6 rfl) ?_
  refine lv_iconst (v := 2) hx hb dL_refuses_93 (by decide) ?_
  refine irem_n (a := n) (b := 2) hx hb ⟨by omega, by decide, by decide⟩ dL_refuses_94 ?_
  refine lv_if_ne (tgt := 107) hx hb dL_refuses_95 (by decide) (fun _ => ?_) (fun c50 => absurd c50 (fun z => absurd (nI_inj (a := n % 2) (b := 0) (by omega) (by omega) z) (by omega)))
  refine lv_sipush (v := 256) hx hb dL_refuses_107 (by decide) ?_
  refine lv_iload_n hx hb dL_refuses_110 rfl (lv_at hl 6 rfl) ?_
  refine lv_bipush (v := 9) hx hb dL_refuses_111 (by decide) ?_
  refine irem_n (a := n) (b := 9) hx hb ⟨by omega, by decide, by decide⟩ dL_refuses_113 ?_
  refine iadd_n (a := 256) (b := n % 9) hx hb dL_refuses_114 ?_
  refine lv_iconst (v := 0) hx hb dL_refuses_115 (by decide) ?_
  refine lv_iconst (v := 0) hx hb dL_refuses_116 (by decide) ?_
  refine cl_o1 (rSP (A := blk b (b + 170)) (As := [.ref b, .int 0, .int (nI (256 + (n % 9))), .int 0, .int 0]) (rest := []) ⟨hx, hb, hml, hown, hts⟩ (c_call_0 l G b X (nI (256 + (n % 9))) 0 0 (-9999002) X hst (no_append (Or.inr (nI_lt (a := 255) (b := 256 + n % 9) (by omega) (by omega))))) (va_cwS 5 hts gL_refuses_L_call rfl rfl rfl (by decide +kernel) ⟨(Nat.le_of_ble_eq_true rfl), (Nat.le_of_ble_eq_true rfl)⟩) hP hO (thr_at hTh hS (fun q h => h)) hN rfl hl.1 (Nat.le_of_ble_eq_true rfl) dL_refuses_117 ⟨(Nat.le_of_ble_eq_true rfl), (Nat.le_of_ble_eq_true rfl)⟩) hS (fun q h => h) (fun H locs hP hS => ?_)
  refine lv_ldc (v := (-9999002)) hx hb hown (hts (.constant RL 25 (-9999002)) (by decide +kernel)) dL_refuses_120 ?_
  refine lv_icmp_ne (tgt := 735) hx hb dL_refuses_122 (by decide) (fun c51 => absurd (by decide) c51) (fun _ => ?_)
  refine lv_aload_n hx hb dL_refuses_125 rfl (lv_at hl 5 rfl) ?_
  refine lv_iconst (v := 2) hx hb dL_refuses_126 (by decide) ?_
  refine lv_bipush (v := 12) hx hb dL_refuses_127 (by decide) ?_
  refine lv_iload_n hx hb dL_refuses_129 rfl (lv_at hl 6 rfl) ?_
  refine lv_bipush (v := 50) hx hb dL_refuses_130 (by decide) ?_
  refine irem_n (a := n) (b := 50) hx hb ⟨by omega, by decide, by decide⟩ dL_refuses_132 ?_
  refine iadd_n (a := 12) (b := n % 50) hx hb dL_refuses_133 ?_
  refine lv_iconst (v := 0) hx hb dL_refuses_134 (by decide) ?_
  refine lv_iconst (v := 0) hx hb dL_refuses_135 (by decide) ?_
  refine cl_o1 (rSP (A := blk b (b + 170)) (As := [.ref b, .int 2, .int (nI (12 + (n % 50))), .int 0, .int 0]) (rest := []) ⟨hx, hb, hml, hown, hts⟩ (c_call_2 l G b X (nI (12 + (n % 50))) 0 0 (-9999002) X hst (no_about (k := 12 + n % 50) (by omega) (by omega))) (va_cwS 5 hts gL_refuses_L_call rfl rfl rfl (by decide +kernel) ⟨(Nat.le_of_ble_eq_true rfl), (Nat.le_of_ble_eq_true rfl)⟩) hP hO (thr_at hTh hS (fun q h => h)) hN rfl hl.1 (Nat.le_of_ble_eq_true rfl) dL_refuses_136 ⟨(Nat.le_of_ble_eq_true rfl), (Nat.le_of_ble_eq_true rfl)⟩) hS (fun q h => h) (fun H locs hP hS => ?_)
  refine lv_ldc (v := (-9999002)) hx hb hown (hts (.constant RL 25 (-9999002)) (by decide +kernel)) dL_refuses_139 ?_
  refine lv_icmp_ne (tgt := 735) hx hb dL_refuses_141 (by decide) (fun c52 => absurd (by decide) c52) (fun _ => ?_)
  refine lv_aload_n hx hb dL_refuses_144 rfl (lv_at hl 5 rfl) ?_
  refine lv_iconst (v := 3) hx hb dL_refuses_145 (by decide) ?_
  refine lv_iload_n hx hb dL_refuses_146 rfl (lv_at hl 3 rfl) ?_
  refine lv_bipush (v := 99) hx hb dL_refuses_147 (by decide) ?_
  refine lv_iconst (v := 0) hx hb dL_refuses_149 (by decide) ?_
  refine cl_o1 (rSP (A := blk b (b + 170)) (As := [.ref b, .int 3, .int (nI ((gm (mN M)) + (n % 99))), .int 99, .int 0]) (rest := []) ⟨hx, hb, hml, hown, hts⟩ (c_call_3 l G b X (nI ((gm (mN M)) + (n % 99))) 99 0 (-9999001) X hst (no_car RX 99 (Or.inr (nI_le (a := gm (mN M)) (b := gm (mN M) + n % 99) (by omega) (by omega))))) (va_cwS 5 hts gL_refuses_L_call rfl rfl rfl (by decide +kernel) ⟨(Nat.le_of_ble_eq_true rfl), (Nat.le_of_ble_eq_true rfl)⟩) hP hO (thr_at hTh hS (fun q h => h)) hN rfl hl.1 (Nat.le_of_ble_eq_true rfl) dL_refuses_150 ⟨(Nat.le_of_ble_eq_true rfl), (Nat.le_of_ble_eq_true rfl)⟩) hS (fun q h => h) (fun H locs hP hS => ?_)
  refine lv_ldc (v := (-9999001)) hx hb hown (hts (.constant RL 15 (-9999001)) (by decide +kernel)) dL_refuses_153 ?_
  refine lv_icmp_ne (tgt := 735) hx hb dL_refuses_155 (by decide) (fun c53 => absurd (by decide) c53) (fun _ => ?_)
  refine lv_aload_n hx hb dL_refuses_158 rfl (lv_at hl 5 rfl) ?_
  refine lv_iconst (v := 3) hx hb dL_refuses_159 (by decide) ?_
  refine lv_iconst (v := 0) hx hb dL_refuses_160 (by decide) ?_
  refine lv_bipush (v := 7) hx hb dL_refuses_161 (by decide) ?_
  refine lv_iload_n hx hb dL_refuses_163 rfl (lv_at hl 6 rfl) ?_
  refine lv_bipush (v := 9) hx hb dL_refuses_164 (by decide) ?_
  refine irem_n (a := n) (b := 9) hx hb ⟨by omega, by decide, by decide⟩ dL_refuses_166 ?_
  refine iadd_n (a := 7) (b := n % 9) hx hb dL_refuses_167 ?_
  refine lv_iconst (v := 0) hx hb dL_refuses_168 (by decide) ?_
  refine cl_o1 (rSP (A := blk b (b + 170)) (As := [.ref b, .int 3, .int 0, .int (nI (7 + (n % 9))), .int 0]) (rest := []) ⟨hx, hb, hml, hown, hts⟩ (c_call_3 l G b X 0 (nI (7 + (n % 9))) 0 (-9999002) X hst (no_car_w RX (by omega) (k := 7 + n % 9) (by omega) (by omega))) (va_cwS 5 hts gL_refuses_L_call rfl rfl rfl (by decide +kernel) ⟨(Nat.le_of_ble_eq_true rfl), (Nat.le_of_ble_eq_true rfl)⟩) hP hO (thr_at hTh hS (fun q h => h)) hN rfl hl.1 (Nat.le_of_ble_eq_true rfl) dL_refuses_169 ⟨(Nat.le_of_ble_eq_true rfl), (Nat.le_of_ble_eq_true rfl)⟩) hS (fun q h => h) (fun H locs hP hS => ?_)
  refine lv_ldc (v := (-9999002)) hx hb hown (hts (.constant RL 25 (-9999002)) (by decide +kernel)) dL_refuses_172 ?_
  refine lv_icmp_ne (tgt := 735) hx hb dL_refuses_174 (by decide) (fun c54 => absurd (by decide) c54) (fun _ => ?_)
  refine lv_aload_n hx hb dL_refuses_177 rfl (lv_at hl 5 rfl) ?_
  refine lv_iconst (v := 4) hx hb dL_refuses_178 (by decide) ?_
  refine lv_iload hx hb dL_refuses_179 (lv_at hl 2 rfl) ?_
  refine lv_iconst (v := 0) hx hb dL_refuses_181 (by decide) ?_
  refine lv_iconst (v := 0) hx hb dL_refuses_182 (by decide) ?_
  refine cl_o1 (rSP (A := blk b (b + 170)) (As := [.ref b, .int 4, .int (nI (80 + (n % 99))), .int 0, .int 0]) (rest := []) ⟨hx, hb, hml, hown, hts⟩ (c_call_4 l G b X (nI (80 + (n % 99))) 0 0 (-9999001) X hst (no_at (Or.inr (nI_le (a := 80) (b := 80 + n % 99) (by omega) (by omega))))) (va_cwS 5 hts gL_refuses_L_call rfl rfl rfl (by decide +kernel) ⟨(Nat.le_of_ble_eq_true rfl), (Nat.le_of_ble_eq_true rfl)⟩) hP hO (thr_at hTh hS (fun q h => h)) hN rfl hl.1 (Nat.le_of_ble_eq_true rfl) dL_refuses_183 ⟨(Nat.le_of_ble_eq_true rfl), (Nat.le_of_ble_eq_true rfl)⟩) hS (fun q h => h) (fun H locs hP hS => ?_)
  refine lv_ldc (v := (-9999001)) hx hb hown (hts (.constant RL 15 (-9999001)) (by decide +kernel)) dL_refuses_186 ?_
  refine lv_icmp_ne (tgt := 735) hx hb dL_refuses_188 (by decide) (fun c55 => absurd (by decide) c55) (fun _ => ?_)
  refine lv_aload_n hx hb dL_refuses_191 rfl (lv_at hl 5 rfl) ?_
  refine lv_iconst (v := 5) hx hb dL_refuses_192 (by decide) ?_
  refine lv_iload hx hb dL_refuses_193 (lv_at hl 1 rfl) ?_
  refine lv_iload_n hx hb dL_refuses_195 rfl (lv_at hl 6 rfl) ?_
  refine lv_bipush (v := 9) hx hb dL_refuses_196 (by decide) ?_
  refine irem_n (a := n) (b := 9) hx hb ⟨by omega, by decide, by decide⟩ dL_refuses_198 ?_
  refine iadd_n (a := f_X7_gaps (mN M)) (b := n % 9) hx hb dL_refuses_199 ?_
  refine lv_bipush (v := 9) hx hb dL_refuses_200 (by decide) ?_
  refine lv_iconst (v := 0) hx hb dL_refuses_202 (by decide) ?_
  refine cl_o1 (rSP (A := blk b (b + 170)) (As := [.ref b, .int 5, .int (nI ((f_X7_gaps (mN M)) + (n % 9))), .int 9, .int 0]) (rest := []) ⟨hx, hb, hml, hown, hts⟩ (c_call_5 l G b X (nI ((f_X7_gaps (mN M)) + (n % 9))) 9 0 (-9999001) X hst (no_gap RX 9 (k := f_X7_gaps (mN M) + n % 9) (by omega) (by omega))) (va_cwS 5 hts gL_refuses_L_call rfl rfl rfl (by decide +kernel) ⟨(Nat.le_of_ble_eq_true rfl), (Nat.le_of_ble_eq_true rfl)⟩) hP hO (thr_at hTh hS (fun q h => h)) hN rfl hl.1 (Nat.le_of_ble_eq_true rfl) dL_refuses_203 ⟨(Nat.le_of_ble_eq_true rfl), (Nat.le_of_ble_eq_true rfl)⟩) hS (fun q h => h) (fun H locs hP hS => ?_)
  refine lv_ldc (v := (-9999001)) hx hb hown (hts (.constant RL 15 (-9999001)) (by decide +kernel)) dL_refuses_206 ?_
  refine lv_icmp_ne (tgt := 735) hx hb dL_refuses_208 (by decide) (fun c56 => absurd (by decide) c56) (fun _ => ?_)
  refine lv_aload_n hx hb dL_refuses_211 rfl (lv_at hl 5 rfl) ?_
  refine lv_iconst (v := 5) hx hb dL_refuses_212 (by decide) ?_
  refine lv_iconst (v := -1) hx hb dL_refuses_213 (by decide) ?_
  refine lv_iload_n hx hb dL_refuses_214 rfl (lv_at hl 6 rfl) ?_
  refine lv_bipush (v := 9) hx hb dL_refuses_215 (by decide) ?_
  refine irem_n (a := n) (b := 9) hx hb ⟨by omega, by decide, by decide⟩ dL_refuses_217 ?_
  refine lv_isub hx hb dL_refuses_218 ?_
  refine lv_iconst (v := 0) hx hb dL_refuses_219 (by decide) ?_
  refine lv_iconst (v := 0) hx hb dL_refuses_220 (by decide) ?_
  refine cl_o1 (rSP (A := blk b (b + 170)) (As := [.ref b, .int 5, .int ((-1 : Int32) - (nI (n % 9))), .int 0, .int 0]) (rest := []) ⟨hx, hb, hml, hown, hts⟩ (c_call_5 l G b X ((-1 : Int32) - (nI (n % 9))) 0 0 (-9999001) X hst (no_gap_n (m1_sub (j := n % 9) (by omega)))) (va_cwS 5 hts gL_refuses_L_call rfl rfl rfl (by decide +kernel) ⟨(Nat.le_of_ble_eq_true rfl), (Nat.le_of_ble_eq_true rfl)⟩) hP hO (thr_at hTh hS (fun q h => h)) hN rfl hl.1 (Nat.le_of_ble_eq_true rfl) dL_refuses_221 ⟨(Nat.le_of_ble_eq_true rfl), (Nat.le_of_ble_eq_true rfl)⟩) hS (fun q h => h) (fun H locs hP hS => ?_)
  refine lv_ldc (v := (-9999001)) hx hb hown (hts (.constant RL 15 (-9999001)) (by decide +kernel)) dL_refuses_224 ?_
  refine lv_icmp_ne (tgt := 735) hx hb dL_refuses_226 (by decide) (fun c57 => absurd (by decide) c57) (fun _ => ?_)
  refine lv_iload hx hb dL_refuses_229 (lv_at hl 1 rfl) ?_
  refine lv_if_eq (tgt := 252) hx hb dL_refuses_231 (by decide) (fun c58 => ?_) (fun c58 => ?_)
  · have c58f : (f_X7_gaps (mN M) : Nat) = 0 := nI_inj (a := f_X7_gaps (mN M)) (b := 0) (by omega) (by omega) c58
    refine W.widen (k := 14) (n := 84) (Nat.le_of_ble_eq_true rfl) (Nat.le_of_ble_eq_true rfl) ?_
    exact cut252  _ _ _ hP hS (lv_sub hl [5, 6, 4, 3, 2, 1, 0] rfl)
  · have c58f : ¬ (f_X7_gaps (mN M) : Nat) = 0 := fun z => c58 (congrArg nI z)
    refine lv_aload_n hx hb dL_refuses_234 rfl (lv_at hl 5 rfl) ?_
    refine lv_iconst (v := 5) hx hb dL_refuses_235 (by decide) ?_
    refine lv_iconst (v := 0) hx hb dL_refuses_236 (by decide) ?_
    refine lv_iconst (v := 2) hx hb dL_refuses_237 (by decide) ?_
    refine lv_iload_n hx hb dL_refuses_238 rfl (lv_at hl 6 rfl) ?_
    refine lv_bipush (v := 9) hx hb dL_refuses_239 (by decide) ?_
    refine irem_n (a := n) (b := 9) hx hb ⟨by omega, by decide, by decide⟩ dL_refuses_241 ?_
    refine iadd_n (a := 2) (b := n % 9) hx hb dL_refuses_242 ?_
    refine lv_iconst (v := 0) hx hb dL_refuses_243 (by decide) ?_
    refine cl_o1 (rSP (A := blk b (b + 170)) (As := [.ref b, .int 5, .int 0, .int (nI (2 + (n % 9))), .int 0]) (rest := []) ⟨hx, hb, hml, hown, hts⟩ (c_call_5 l G b X 0 (nI (2 + (n % 9))) 0 (-9999002) X hst (no_gap_w RX (by omega) (k := 2 + n % 9) (by omega) (by omega))) (va_cwS 5 hts gL_refuses_L_call rfl rfl rfl (by decide +kernel) ⟨(Nat.le_of_ble_eq_true rfl), (Nat.le_of_ble_eq_true rfl)⟩) hP hO (thr_at hTh hS (fun q h => h)) hN rfl hl.1 (Nat.le_of_ble_eq_true rfl) dL_refuses_244 ⟨(Nat.le_of_ble_eq_true rfl), (Nat.le_of_ble_eq_true rfl)⟩) hS (fun q h => h) (fun H locs hP hS => ?_)
    refine lv_ldc (v := (-9999002)) hx hb hown (hts (.constant RL 25 (-9999002)) (by decide +kernel)) dL_refuses_247 ?_
    refine lv_icmp_ne (tgt := 735) hx hb dL_refuses_249 (by decide) (fun c59 => absurd (by decide) c59) (fun _ => ?_)
    refine W.widen (k := 14) (n := 84) (Nat.le_of_ble_eq_true rfl) (Nat.le_of_ble_eq_true rfl) ?_
    exact cut252  _ _ _ hP hS (lv_sub hl [5, 6, 4, 3, 2, 1, 0] rfl)

theorem c_L_refuses (l : Launch) (G : GG) (b : Nat) (X : Cx) (M : Mo) (n : Nat) (hst : l.stackTraces = false) (RX : RelX X M) (CX : Ch X) (hn : n < 100000) : Met l yL_refuses wsL_refuses ({ frames := 12, cells := 50, slots := 300, locals := 210 }) (PcN G (blk b (b + 170)) [.ref b, .int (nI n)] (Cb G b X)) (QM (some (.int 1)) (Cb G b X) (blk b (b + 170))) 50 300 (blk b (b + 170)) := by
  rcases (show n % 2 = 0 ∨ n % 2 = 1 by omega) with hp | hp
  · exact c_L_refuses_0 l G b X M n hst RX CX hn hp
  · exact c_L_refuses_1 l G b X M n hst RX CX hn hp
