set_option maxHeartbeats 16000000 in
set_option maxRecDepth 100000 in
theorem c_L_moves (l : Launch) (G : GG) (a b : Nat) (hd : a + 170 ≤ b) (X Y : Cx) (M : Mo) (n : Nat) (hst : l.stackTraces = false) (RX : RelX X M) (RY : RelX Y M) (CX : Ch X) (CY : Ch Y) (hn : n < 2 ^ 31) : Met l yL_moves wsL_moves ({ frames := 13, cells := 200, slots := 1200, locals := 234 }) (PcN G (fun q => blk a (a + 170) q ∨ blk b (b + 170) q) [.ref a, .ref b, .int (nI n)] (fun H => Cb G a X H ∧ Cb G b Y H)) (QM (some (.int 1)) (fun H => ∃ X1 Y1 M1, Cb G a X1 H ∧ Cb G b Y1 H ∧ RelX X1 M1 ∧ RelX Y1 M1 ∧ Ch X1 ∧ Ch Y1) (fun q => blk a (a + 170) q ∨ blk b (b + 170) q)) 200 1200 (fun q => blk a (a + 170) q ∨ blk b (b + 170) q) := by
  refine metN (cc := cL_moves) (maxL := 15) (ret := (some .boolean)) (by decide) rfl ?_
  intro p e s m below meth cd hx hb hr hml hown hts hlocks hP hO hTh hN
  obtain ⟨hP, hQ⟩ := hP
  obtain ⟨j, hj, ej⟩ : ∃ j, (2 ≤ j ∧ j ≤ 8) ∧ 2 + n % 7 = j := ⟨_, by omega, rfl⟩
  obtain ⟨c0, t0, m0, m1, hz, hy⟩ := rd_mv RX hj
  have hg40 := RX.nw.2.ri.m.2
  have hS : va_S (fun q => blk a (a + 170) q ∨ blk b (b + 170) q) s.heap s.heap [] := va_S.rf
  have hl := lv_entry ([.ref a, .ref b, .int (nI n)]) (n := 15) (Nat.le_of_ble_eq_true rfl)
  rw [lg_entry_eq]
  generalize (lg_sl ([.ref a, .ref b, .int (nI n)]) ++ List.replicate (15 - (lg_sl ([.ref a, .ref b, .int (nI n)])).length) Slot.unset).toArray = ls at hl ⊢
  have hl : lv_has ls 15 [(0, .ref a), (1, .ref b), (2, .int (nI n))] := hl
  have cut210 : ∀ (X2 : Cx) (Y2 : Cx) (M2 : Mo), RelX X2 M2 → RelX Y2 M2 → Ch X2 → Ch Y2 → ∀ (H : Heap) (locs : List Loc) (ls : Array Slot), Cb G a X2 H → Cb G b Y2 H → va_S (fun q => blk a (a + 170) q ∨ blk b (b + 170) q) s.heap H locs → lv_has ls 15 [(0, .ref a), (1, .ref b), (2, .int (nI n)), (6, .int 1)] → W p l e (headSpec wsL_moves ({ frames := 13, cells := 200, slots := 1200, locals := 234 } : Room)).room s m ([.ref a, .ref b, .int (nI n)] : List Value).toArray below meth cd H locs 14 84 (MQ below (QM (some (.int 1)) (fun H => ∃ X1 Y1 M1, Cb G a X1 H ∧ Cb G b Y1 H ∧ RelX X1 M1 ∧ RelX Y1 M1 ∧ Ch X1 ∧ Ch Y1) (fun q => blk a (a + 170) q ∨ blk b (b + 170) q)) ([.ref a, .ref b, .int (nI n)] : List Value).toArray s 200 1200 (fun q => blk a (a + 170) q ∨ blk b (b + 170) q)) (F0 m 210 ls []) := by
    intro X2 Y2 M2 r2x r2y c2x c2y H locs ls hP hQ hS hl
    have hg2 : 2 ≤ gm (mN M2) := by rw [← nm_gm r2x]; exact c2x.1
    have hgm40 := r2x.nw.2.ri.m.2
    obtain ⟨o, ho, eo⟩ : ∃ o, o < gm (mN M2) ∧ n / 7 % gm (mN M2) = o := ⟨_, Nat.mod_lt _ (by omega), rfl⟩
    obtain ⟨t, ht, et⟩ : ∃ t, t < 80 ∧ n / 300 % 80 = t := ⟨_, Nat.mod_lt _ (by omega), rfl⟩
    have cut321 : ∀ (p0 : Nat) (L : Nat) (B : Nat) (A : Nat) (w : Nat) (v : Nat), Pk (mN M2) o p0 L B A → p0 = w + B → v = p0 + L + A → ∀ (H : Heap) (locs : List Loc) (ls : Array Slot), Cb G a X2 H → Cb G b Y2 H → va_S (fun q => blk a (a + 170) q ∨ blk b (b + 170) q) s.heap H locs → lv_has ls 15 [(0, .ref a), (1, .ref b), (2, .int (nI n)), (6, .int 1), (7, .int (nI o)), (8, .int (nI p0)), (9, .int (nI (p0 + L))), (10, .int (nI w)), (11, .int (nI v))] → W p l e (headSpec wsL_moves ({ frames := 13, cells := 200, slots := 1200, locals := 234 } : Room)).room s m ([.ref a, .ref b, .int (nI n)] : List Value).toArray below meth cd H locs 177 1062 (MQ below (QM (some (.int 1)) (fun H => ∃ X1 Y1 M1, Cb G a X1 H ∧ Cb G b Y1 H ∧ RelX X1 M1 ∧ RelX Y1 M1 ∧ Ch X1 ∧ Ch Y1) (fun q => blk a (a + 170) q ∨ blk b (b + 170) q)) ([.ref a, .ref b, .int (nI n)] : List Value).toArray s 200 1200 (fun q => blk a (a + 170) q ∨ blk b (b + 170) q)) (F0 m 321 ls []) := by
      intro p0 L B A w v pk hw hv H locs ls hP hQ hS hl
      obtain ⟨a1, a2, fB, fA, mB, mA⟩ := pk.all
      have hL2 := pk.L2
      have ep3 : f_X7_of (mN M2) o 3 = nI p0 := by rw [(r2x.nw.2.ri.X ho pk.hs).1, pk.ep]
      refine lv_iload_n hx hb dL_moves_321 rfl (lv_at hl 2 rfl) ?_
      refine lv_sipush (v := 300) hx hb dL_moves_322 (by decide) ?_
      refine idiv_n (a := n) (b := 300) hx hb ⟨by omega, by decide, by decide⟩ dL_moves_325 ?_
      refine lv_bipush (v := 80) hx hb dL_moves_326 (by decide) ?_
      refine irem_n (a := n / 300) (b := 80) hx hb ⟨by omega, by decide, by decide⟩ dL_moves_328 ?_
      rw [show nI ((n / 300) % 80) = nI t from congrArg nI et]
      refine lv_istore (lv' := [(12, .int (nI t)), (0, .ref a), (1, .ref b), (2, .int (nI n)), (6, .int 1), (7, .int (nI o)), (8, .int (nI p0)), (9, .int (nI (p0 + L))), (10, .int (nI w)), (11, .int (nI v))]) hx hb dL_moves_329 hl (by decide) rfl (fun ls hl => ?_)
      refine lv_iload hx hb dL_moves_331 (lv_at hl 0 rfl) ?_
      refine lv_iload hx hb dL_moves_333 (lv_at hl 8 rfl) ?_
      refine lv_icmp_lt (tgt := 355) hx hb dL_moves_335 (by decide) (fun c1 => ?_) (fun c1 => ?_)
      · have c1f : t < w := (nI_ltI (a := t) (b := w) (by omega) (by omega)).mp c1
        have hcan : f_X7_canMove (mN M2) o t = 0 := Decidable.byContradiction (fun z => by
          have := (can_iff r2x.nw.2 pk ht).mp z
          omega)
        refine lv_iconst (v := 0) hx hb dL_moves_355 (by decide) ?_
        refine lv_istore (lv' := [(13, .int 0), (12, .int (nI t)), (0, .ref a), (1, .ref b), (2, .int (nI n)), (6, .int 1), (7, .int (nI o)), (8, .int (nI p0)), (9, .int (nI (p0 + L))), (10, .int (nI w)), (11, .int (nI v))]) hx hb dL_moves_356 hl (by decide) rfl (fun ls hl => ?_)
        refine lv_iload hx hb dL_moves_358 (lv_at hl 1 rfl) ?_
        refine lv_iload hx hb dL_moves_360 (lv_at hl 7 rfl) ?_
        refine lv_icmp_ge (tgt := 373) hx hb dL_moves_362 (by decide) (fun c2 => ?_) (fun c2 => ?_)
        · have c2f : p0 ≤ t := (nI_leI (a := p0) (b := t) (by omega) (by omega)).mp c2
          refine lv_iload hx hb dL_moves_373 (lv_at hl 1 rfl) ?_
          refine lv_iload hx hb dL_moves_375 (lv_at hl 7 rfl) ?_
          refine isub_n (a := t) (b := p0) hx hb (by omega) dL_moves_377 ?_
          refine lv_istore (lv' := [(14, .int (nI (t - p0))), (13, .int 0), (12, .int (nI t)), (0, .ref a), (1, .ref b), (2, .int (nI n)), (6, .int 1), (7, .int (nI o)), (8, .int (nI p0)), (9, .int (nI (p0 + L))), (10, .int (nI w)), (11, .int (nI v))]) hx hb dL_moves_378 hl (by decide) rfl (fun ls hl => ?_)
          refine lv_aload_n hx hb dL_moves_380 rfl (lv_at hl 3 rfl) ?_
          refine lv_bipush (v := 10) hx hb dL_moves_381 (by decide) ?_
          refine lv_iload hx hb dL_moves_383 (lv_at hl 7 rfl) ?_
          refine lv_iload hx hb dL_moves_385 (lv_at hl 2 rfl) ?_
          refine lv_iconst (v := 0) hx hb dL_moves_387 (by decide) ?_
          refine cl_o2 (rSP (A := blk a (a + 170)) (As := [.ref a, .int 10, .int (nI o), .int (nI t), .int 0]) (rest := []) ⟨hx, hb, hml, hown, hts⟩ (c_call_10 l G a X2 (nI o) (nI t) 0 (-9999003) X2 hst (r2x).ho (r2x).hk (mvv_no r2x ho ht hcan)) (va_cwS 5 hts gL_moves_L_call rfl rfl rfl (by decide +kernel) ⟨(Nat.le_of_ble_eq_true rfl), (Nat.le_of_ble_eq_true rfl)⟩) hP hO (thr_at hTh hS (fun q h => Or.inl h)) hN rfl hl.1 (Nat.le_of_ble_eq_true rfl) dL_moves_388 ⟨(Nat.le_of_ble_eq_true rfl), (Nat.le_of_ble_eq_true rfl)⟩) hS (fun q h => Or.inl h) hQ (Or.inl hd) (fun H locs hP hQ hS => ?_)
          refine lv_iload hx hb dL_moves_391 (lv_at hl 1 rfl) ?_
          refine lv_if_eq (tgt := 401) hx hb dL_moves_393 (by decide) (fun _ => ?_) (fun c3 => absurd (by decide) c3)
          refine lv_ldc (v := (-9999003)) hx hb hown (hts (.constant RL 18 (-9999003)) (by decide +kernel)) dL_moves_401 ?_
          refine lv_icmp_ne (tgt := 464) hx hb dL_moves_403 (by decide) (fun c4 => absurd (by decide) c4) (fun _ => ?_)
          refine lv_aload_n hx hb dL_moves_406 rfl (lv_at hl 4 rfl) ?_
          refine lv_bipush (v := 10) hx hb dL_moves_407 (by decide) ?_
          refine lv_iload hx hb dL_moves_409 (lv_at hl 7 rfl) ?_
          refine lv_iload hx hb dL_moves_411 (lv_at hl 2 rfl) ?_
          refine lv_iconst (v := 0) hx hb dL_moves_413 (by decide) ?_
          refine cl_o2 (rSP (A := blk b (b + 170)) (As := [.ref b, .int 10, .int (nI o), .int (nI t), .int 0]) (rest := []) ⟨hx, hb, hml, hown, hts⟩ (c_call_10 l G b Y2 (nI o) (nI t) 0 (-9999003) Y2 hst (r2y).ho (r2y).hk (mvv_no r2y ho ht hcan)) (va_cwS 5 hts gL_moves_L_call rfl rfl rfl (by decide +kernel) ⟨(Nat.le_of_ble_eq_true rfl), (Nat.le_of_ble_eq_true rfl)⟩) hQ hO (thr_at hTh hS (fun q h => Or.inr h)) hN rfl hl.1 (Nat.le_of_ble_eq_true rfl) dL_moves_414 ⟨(Nat.le_of_ble_eq_true rfl), (Nat.le_of_ble_eq_true rfl)⟩) hS (fun q h => Or.inr h) hP (Or.inr hd) (fun H locs hQ hP hS => ?_)
          refine lv_iload hx hb dL_moves_417 (lv_at hl 1 rfl) ?_
          refine lv_if_eq (tgt := 427) hx hb dL_moves_419 (by decide) (fun _ => ?_) (fun c5 => absurd (by decide) c5)
          refine lv_ldc (v := (-9999003)) hx hb hown (hts (.constant RL 18 (-9999003)) (by decide +kernel)) dL_moves_427 ?_
          refine lv_icmp_ne (tgt := 464) hx hb dL_moves_429 (by decide) (fun c6 => absurd (by decide) c6) (fun _ => ?_)
          refine lv_iload hx hb dL_moves_432 (lv_at hl 1 rfl) ?_
          refine lv_if_eq (tgt := 446) hx hb dL_moves_434 (by decide) (fun _ => ?_) (fun c7 => absurd (by decide) c7)
          refine lv_aload_n hx hb dL_moves_446 rfl (lv_at hl 3 rfl) ?_
          refine lv_iconst (v := 3) hx hb dL_moves_447 (by decide) ?_
          refine lv_iload hx hb dL_moves_448 (lv_at hl 7 rfl) ?_
          refine lv_iconst (v := 3) hx hb dL_moves_450 (by decide) ?_
          refine lv_iconst (v := 0) hx hb dL_moves_451 (by decide) ?_
          refine cl_o2 (rSP (A := blk a (a + 170)) (As := [.ref a, .int 3, .int (nI o), .int 3, .int 0]) (rest := []) ⟨hx, hb, hml, hown, hts⟩ (c_call_3 l G a X2 (nI o) 3 0 (nI p0) X2 hst ((rd_car3 r2x ho).trans (by rw [ep3]))) (va_cwS 5 hts gL_moves_L_call rfl rfl rfl (by decide +kernel) ⟨(Nat.le_of_ble_eq_true rfl), (Nat.le_of_ble_eq_true rfl)⟩) hP hO (thr_at hTh hS (fun q h => Or.inl h)) hN rfl hl.1 (Nat.le_of_ble_eq_true rfl) dL_moves_452 ⟨(Nat.le_of_ble_eq_true rfl), (Nat.le_of_ble_eq_true rfl)⟩) hS (fun q h => Or.inl h) hQ (Or.inl hd) (fun H locs hP hQ hS => ?_)
          refine lv_iload hx hb dL_moves_455 (lv_at hl 8 rfl) ?_
          refine lv_icmp_ne (tgt := 464) hx hb dL_moves_457 (by decide) (fun c8 => absurd (congrArg nI (show (p0 : Nat) = p0 by omega)) c8) (fun _ => ?_)
          refine lv_iconst (v := 1) hx hb dL_moves_460 (by decide) ?_
          refine lv_goto (tgt := 465) hx hb dL_moves_461 (by decide) ?_
          refine lv_istore (lv' := [(6, .int 1), (14, .int (nI (t - p0))), (13, .int 0), (12, .int (nI t)), (0, .ref a), (1, .ref b), (2, .int (nI n)), (7, .int (nI o)), (8, .int (nI p0)), (9, .int (nI (p0 + L))), (10, .int (nI w)), (11, .int (nI v))]) hx hb dL_moves_465 hl (by decide) rfl (fun ls hl => ?_)
          refine lv_iload hx hb dL_moves_467 (lv_at hl 0 rfl) ?_
          exact W.widen (k := 200) (n := 1200) (Nat.le_of_ble_eq_true rfl) (Nat.le_of_ble_eq_true rfl) (W.zret (ty := .boolean) hx hb hr rfl (fun t ht hW => ⟨rfl, by rw [ht]; exact ⟨_, _, _, hP, hQ, r2x, r2y, c2x, c2y⟩, hS.F ht⟩) hS.2.2 dL_moves_469)
        · have c2f : ¬ p0 ≤ t := fun z => c2 ((nI_leI (a := p0) (b := t) (by omega) (by omega)).mpr z)
          refine lv_iload hx hb dL_moves_365 (lv_at hl 7 rfl) ?_
          refine lv_iload hx hb dL_moves_367 (lv_at hl 1 rfl) ?_
          refine isub_n (a := p0) (b := t) hx hb (by omega) dL_moves_369 ?_
          refine lv_goto (tgt := 378) hx hb dL_moves_370 (by decide) ?_
          refine lv_istore (lv' := [(14, .int (nI (p0 - t))), (13, .int 0), (12, .int (nI t)), (0, .ref a), (1, .ref b), (2, .int (nI n)), (6, .int 1), (7, .int (nI o)), (8, .int (nI p0)), (9, .int (nI (p0 + L))), (10, .int (nI w)), (11, .int (nI v))]) hx hb dL_moves_378 hl (by decide) rfl (fun ls hl => ?_)
          refine lv_aload_n hx hb dL_moves_380 rfl (lv_at hl 3 rfl) ?_
          refine lv_bipush (v := 10) hx hb dL_moves_381 (by decide) ?_
          refine lv_iload hx hb dL_moves_383 (lv_at hl 7 rfl) ?_
          refine lv_iload hx hb dL_moves_385 (lv_at hl 2 rfl) ?_
          refine lv_iconst (v := 0) hx hb dL_moves_387 (by decide) ?_
          refine cl_o2 (rSP (A := blk a (a + 170)) (As := [.ref a, .int 10, .int (nI o), .int (nI t), .int 0]) (rest := []) ⟨hx, hb, hml, hown, hts⟩ (c_call_10 l G a X2 (nI o) (nI t) 0 (-9999003) X2 hst (r2x).ho (r2x).hk (mvv_no r2x ho ht hcan)) (va_cwS 5 hts gL_moves_L_call rfl rfl rfl (by decide +kernel) ⟨(Nat.le_of_ble_eq_true rfl), (Nat.le_of_ble_eq_true rfl)⟩) hP hO (thr_at hTh hS (fun q h => Or.inl h)) hN rfl hl.1 (Nat.le_of_ble_eq_true rfl) dL_moves_388 ⟨(Nat.le_of_ble_eq_true rfl), (Nat.le_of_ble_eq_true rfl)⟩) hS (fun q h => Or.inl h) hQ (Or.inl hd) (fun H locs hP hQ hS => ?_)
          refine lv_iload hx hb dL_moves_391 (lv_at hl 1 rfl) ?_
          refine lv_if_eq (tgt := 401) hx hb dL_moves_393 (by decide) (fun _ => ?_) (fun c9 => absurd (by decide) c9)
          refine lv_ldc (v := (-9999003)) hx hb hown (hts (.constant RL 18 (-9999003)) (by decide +kernel)) dL_moves_401 ?_
          refine lv_icmp_ne (tgt := 464) hx hb dL_moves_403 (by decide) (fun c10 => absurd (by decide) c10) (fun _ => ?_)
          refine lv_aload_n hx hb dL_moves_406 rfl (lv_at hl 4 rfl) ?_
          refine lv_bipush (v := 10) hx hb dL_moves_407 (by decide) ?_
          refine lv_iload hx hb dL_moves_409 (lv_at hl 7 rfl) ?_
          refine lv_iload hx hb dL_moves_411 (lv_at hl 2 rfl) ?_
          refine lv_iconst (v := 0) hx hb dL_moves_413 (by decide) ?_
          refine cl_o2 (rSP (A := blk b (b + 170)) (As := [.ref b, .int 10, .int (nI o), .int (nI t), .int 0]) (rest := []) ⟨hx, hb, hml, hown, hts⟩ (c_call_10 l G b Y2 (nI o) (nI t) 0 (-9999003) Y2 hst (r2y).ho (r2y).hk (mvv_no r2y ho ht hcan)) (va_cwS 5 hts gL_moves_L_call rfl rfl rfl (by decide +kernel) ⟨(Nat.le_of_ble_eq_true rfl), (Nat.le_of_ble_eq_true rfl)⟩) hQ hO (thr_at hTh hS (fun q h => Or.inr h)) hN rfl hl.1 (Nat.le_of_ble_eq_true rfl) dL_moves_414 ⟨(Nat.le_of_ble_eq_true rfl), (Nat.le_of_ble_eq_true rfl)⟩) hS (fun q h => Or.inr h) hP (Or.inr hd) (fun H locs hQ hP hS => ?_)
          refine lv_iload hx hb dL_moves_417 (lv_at hl 1 rfl) ?_
          refine lv_if_eq (tgt := 427) hx hb dL_moves_419 (by decide) (fun _ => ?_) (fun c11 => absurd (by decide) c11)
          refine lv_ldc (v := (-9999003)) hx hb hown (hts (.constant RL 18 (-9999003)) (by decide +kernel)) dL_moves_427 ?_
          refine lv_icmp_ne (tgt := 464) hx hb dL_moves_429 (by decide) (fun c12 => absurd (by decide) c12) (fun _ => ?_)
          refine lv_iload hx hb dL_moves_432 (lv_at hl 1 rfl) ?_
          refine lv_if_eq (tgt := 446) hx hb dL_moves_434 (by decide) (fun _ => ?_) (fun c13 => absurd (by decide) c13)
          refine lv_aload_n hx hb dL_moves_446 rfl (lv_at hl 3 rfl) ?_
          refine lv_iconst (v := 3) hx hb dL_moves_447 (by decide) ?_
          refine lv_iload hx hb dL_moves_448 (lv_at hl 7 rfl) ?_
          refine lv_iconst (v := 3) hx hb dL_moves_450 (by decide) ?_
          refine lv_iconst (v := 0) hx hb dL_moves_451 (by decide) ?_
          refine cl_o2 (rSP (A := blk a (a + 170)) (As := [.ref a, .int 3, .int (nI o), .int 3, .int 0]) (rest := []) ⟨hx, hb, hml, hown, hts⟩ (c_call_3 l G a X2 (nI o) 3 0 (nI p0) X2 hst ((rd_car3 r2x ho).trans (by rw [ep3]))) (va_cwS 5 hts gL_moves_L_call rfl rfl rfl (by decide +kernel) ⟨(Nat.le_of_ble_eq_true rfl), (Nat.le_of_ble_eq_true rfl)⟩) hP hO (thr_at hTh hS (fun q h => Or.inl h)) hN rfl hl.1 (Nat.le_of_ble_eq_true rfl) dL_moves_452 ⟨(Nat.le_of_ble_eq_true rfl), (Nat.le_of_ble_eq_true rfl)⟩) hS (fun q h => Or.inl h) hQ (Or.inl hd) (fun H locs hP hQ hS => ?_)
          refine lv_iload hx hb dL_moves_455 (lv_at hl 8 rfl) ?_
          refine lv_icmp_ne (tgt := 464) hx hb dL_moves_457 (by decide) (fun c14 => absurd (congrArg nI (show (p0 : Nat) = p0 by omega)) c14) (fun _ => ?_)
          refine lv_iconst (v := 1) hx hb dL_moves_460 (by decide) ?_
          refine lv_goto (tgt := 465) hx hb dL_moves_461 (by decide) ?_
          refine lv_istore (lv' := [(6, .int 1), (14, .int (nI (p0 - t))), (13, .int 0), (12, .int (nI t)), (0, .ref a), (1, .ref b), (2, .int (nI n)), (7, .int (nI o)), (8, .int (nI p0)), (9, .int (nI (p0 + L))), (10, .int (nI w)), (11, .int (nI v))]) hx hb dL_moves_465 hl (by decide) rfl (fun ls hl => ?_)
          refine lv_iload hx hb dL_moves_467 (lv_at hl 0 rfl) ?_
          exact W.widen (k := 200) (n := 1200) (Nat.le_of_ble_eq_true rfl) (Nat.le_of_ble_eq_true rfl) (W.zret (ty := .boolean) hx hb hr rfl (fun t ht hW => ⟨rfl, by rw [ht]; exact ⟨_, _, _, hP, hQ, r2x, r2y, c2x, c2y⟩, hS.F ht⟩) hS.2.2 dL_moves_469)
      · have c1f : ¬ t < w := fun z => c1 ((nI_ltI (a := t) (b := w) (by omega) (by omega)).mpr z)
        refine lv_iload hx hb dL_moves_338 (lv_at hl 0 rfl) ?_
        refine lv_iload hx hb dL_moves_340 (lv_at hl 7 rfl) ?_
        refine iadd_n (a := t) (b := p0 + L) hx hb dL_moves_342 ?_
        refine lv_iload hx hb dL_moves_343 (lv_at hl 6 rfl) ?_
        refine isub_n (a := t + (p0 + L)) (b := p0) hx hb (by omega) dL_moves_345 ?_
        refine lv_iload hx hb dL_moves_346 (lv_at hl 9 rfl) ?_
        refine lv_icmp_gt (tgt := 355) hx hb dL_moves_348 (by decide) (fun c15 => ?_) (fun c15 => ?_)
        · have c15f : v < (t + (p0 + L)) - p0 := (nI_ltI (a := v) (b := (t + (p0 + L)) - p0) (by omega) (by omega)).mp c15
          have hcan : f_X7_canMove (mN M2) o t = 0 := Decidable.byContradiction (fun z => by
            have := (can_iff r2x.nw.2 pk ht).mp z
            omega)
          refine lv_iconst (v := 0) hx hb dL_moves_355 (by decide) ?_
          refine lv_istore (lv' := [(13, .int 0), (12, .int (nI t)), (0, .ref a), (1, .ref b), (2, .int (nI n)), (6, .int 1), (7, .int (nI o)), (8, .int (nI p0)), (9, .int (nI (p0 + L))), (10, .int (nI w)), (11, .int (nI v))]) hx hb dL_moves_356 hl (by decide) rfl (fun ls hl => ?_)
          refine lv_iload hx hb dL_moves_358 (lv_at hl 1 rfl) ?_
          refine lv_iload hx hb dL_moves_360 (lv_at hl 7 rfl) ?_
          refine lv_icmp_ge (tgt := 373) hx hb dL_moves_362 (by decide) (fun c16 => ?_) (fun c16 => ?_)
          · have c16f : p0 ≤ t := (nI_leI (a := p0) (b := t) (by omega) (by omega)).mp c16
            refine lv_iload hx hb dL_moves_373 (lv_at hl 1 rfl) ?_
            refine lv_iload hx hb dL_moves_375 (lv_at hl 7 rfl) ?_
            refine isub_n (a := t) (b := p0) hx hb (by omega) dL_moves_377 ?_
            refine lv_istore (lv' := [(14, .int (nI (t - p0))), (13, .int 0), (12, .int (nI t)), (0, .ref a), (1, .ref b), (2, .int (nI n)), (6, .int 1), (7, .int (nI o)), (8, .int (nI p0)), (9, .int (nI (p0 + L))), (10, .int (nI w)), (11, .int (nI v))]) hx hb dL_moves_378 hl (by decide) rfl (fun ls hl => ?_)
            refine lv_aload_n hx hb dL_moves_380 rfl (lv_at hl 3 rfl) ?_
            refine lv_bipush (v := 10) hx hb dL_moves_381 (by decide) ?_
            refine lv_iload hx hb dL_moves_383 (lv_at hl 7 rfl) ?_
            refine lv_iload hx hb dL_moves_385 (lv_at hl 2 rfl) ?_
            refine lv_iconst (v := 0) hx hb dL_moves_387 (by decide) ?_
            refine cl_o2 (rSP (A := blk a (a + 170)) (As := [.ref a, .int 10, .int (nI o), .int (nI t), .int 0]) (rest := []) ⟨hx, hb, hml, hown, hts⟩ (c_call_10 l G a X2 (nI o) (nI t) 0 (-9999003) X2 hst (r2x).ho (r2x).hk (mvv_no r2x ho ht hcan)) (va_cwS 5 hts gL_moves_L_call rfl rfl rfl (by decide +kernel) ⟨(Nat.le_of_ble_eq_true rfl), (Nat.le_of_ble_eq_true rfl)⟩) hP hO (thr_at hTh hS (fun q h => Or.inl h)) hN rfl hl.1 (Nat.le_of_ble_eq_true rfl) dL_moves_388 ⟨(Nat.le_of_ble_eq_true rfl), (Nat.le_of_ble_eq_true rfl)⟩) hS (fun q h => Or.inl h) hQ (Or.inl hd) (fun H locs hP hQ hS => ?_)
            refine lv_iload hx hb dL_moves_391 (lv_at hl 1 rfl) ?_
            refine lv_if_eq (tgt := 401) hx hb dL_moves_393 (by decide) (fun _ => ?_) (fun c17 => absurd (by decide) c17)
            refine lv_ldc (v := (-9999003)) hx hb hown (hts (.constant RL 18 (-9999003)) (by decide +kernel)) dL_moves_401 ?_
            refine lv_icmp_ne (tgt := 464) hx hb dL_moves_403 (by decide) (fun c18 => absurd (by decide) c18) (fun _ => ?_)
            refine lv_aload_n hx hb dL_moves_406 rfl (lv_at hl 4 rfl) ?_
            refine lv_bipush (v := 10) hx hb dL_moves_407 (by decide) ?_
            refine lv_iload hx hb dL_moves_409 (lv_at hl 7 rfl) ?_
            refine lv_iload hx hb dL_moves_411 (lv_at hl 2 rfl) ?_
            refine lv_iconst (v := 0) hx hb dL_moves_413 (by decide) ?_
            refine cl_o2 (rSP (A := blk b (b + 170)) (As := [.ref b, .int 10, .int (nI o), .int (nI t), .int 0]) (rest := []) ⟨hx, hb, hml, hown, hts⟩ (c_call_10 l G b Y2 (nI o) (nI t) 0 (-9999003) Y2 hst (r2y).ho (r2y).hk (mvv_no r2y ho ht hcan)) (va_cwS 5 hts gL_moves_L_call rfl rfl rfl (by decide +kernel) ⟨(Nat.le_of_ble_eq_true rfl), (Nat.le_of_ble_eq_true rfl)⟩) hQ hO (thr_at hTh hS (fun q h => Or.inr h)) hN rfl hl.1 (Nat.le_of_ble_eq_true rfl) dL_moves_414 ⟨(Nat.le_of_ble_eq_true rfl), (Nat.le_of_ble_eq_true rfl)⟩) hS (fun q h => Or.inr h) hP (Or.inr hd) (fun H locs hQ hP hS => ?_)
            refine lv_iload hx hb dL_moves_417 (lv_at hl 1 rfl) ?_
            refine lv_if_eq (tgt := 427) hx hb dL_moves_419 (by decide) (fun _ => ?_) (fun c19 => absurd (by decide) c19)
            refine lv_ldc (v := (-9999003)) hx hb hown (hts (.constant RL 18 (-9999003)) (by decide +kernel)) dL_moves_427 ?_
            refine lv_icmp_ne (tgt := 464) hx hb dL_moves_429 (by decide) (fun c20 => absurd (by decide) c20) (fun _ => ?_)
            refine lv_iload hx hb dL_moves_432 (lv_at hl 1 rfl) ?_
            refine lv_if_eq (tgt := 446) hx hb dL_moves_434 (by decide) (fun _ => ?_) (fun c21 => absurd (by decide) c21)
            refine lv_aload_n hx hb dL_moves_446 rfl (lv_at hl 3 rfl) ?_
            refine lv_iconst (v := 3) hx hb dL_moves_447 (by decide) ?_
            refine lv_iload hx hb dL_moves_448 (lv_at hl 7 rfl) ?_
            refine lv_iconst (v := 3) hx hb dL_moves_450 (by decide) ?_
            refine lv_iconst (v := 0) hx hb dL_moves_451 (by decide) ?_
            refine cl_o2 (rSP (A := blk a (a + 170)) (As := [.ref a, .int 3, .int (nI o), .int 3, .int 0]) (rest := []) ⟨hx, hb, hml, hown, hts⟩ (c_call_3 l G a X2 (nI o) 3 0 (nI p0) X2 hst ((rd_car3 r2x ho).trans (by rw [ep3]))) (va_cwS 5 hts gL_moves_L_call rfl rfl rfl (by decide +kernel) ⟨(Nat.le_of_ble_eq_true rfl), (Nat.le_of_ble_eq_true rfl)⟩) hP hO (thr_at hTh hS (fun q h => Or.inl h)) hN rfl hl.1 (Nat.le_of_ble_eq_true rfl) dL_moves_452 ⟨(Nat.le_of_ble_eq_true rfl), (Nat.le_of_ble_eq_true rfl)⟩) hS (fun q h => Or.inl h) hQ (Or.inl hd) (fun H locs hP hQ hS => ?_)
            refine lv_iload hx hb dL_moves_455 (lv_at hl 8 rfl) ?_
            refine lv_icmp_ne (tgt := 464) hx hb dL_moves_457 (by decide) (fun c22 => absurd (congrArg nI (show (p0 : Nat) = p0 by omega)) c22) (fun _ => ?_)
            refine lv_iconst (v := 1) hx hb dL_moves_460 (by decide) ?_
            refine lv_goto (tgt := 465) hx hb dL_moves_461 (by decide) ?_
            refine lv_istore (lv' := [(6, .int 1), (14, .int (nI (t - p0))), (13, .int 0), (12, .int (nI t)), (0, .ref a), (1, .ref b), (2, .int (nI n)), (7, .int (nI o)), (8, .int (nI p0)), (9, .int (nI (p0 + L))), (10, .int (nI w)), (11, .int (nI v))]) hx hb dL_moves_465 hl (by decide) rfl (fun ls hl => ?_)
            refine lv_iload hx hb dL_moves_467 (lv_at hl 0 rfl) ?_
            exact W.widen (k := 200) (n := 1200) (Nat.le_of_ble_eq_true rfl) (Nat.le_of_ble_eq_true rfl) (W.zret (ty := .boolean) hx hb hr rfl (fun t ht hW => ⟨rfl, by rw [ht]; exact ⟨_, _, _, hP, hQ, r2x, r2y, c2x, c2y⟩, hS.F ht⟩) hS.2.2 dL_moves_469)
          · have c16f : ¬ p0 ≤ t := fun z => c16 ((nI_leI (a := p0) (b := t) (by omega) (by omega)).mpr z)
            refine lv_iload hx hb dL_moves_365 (lv_at hl 7 rfl) ?_
            refine lv_iload hx hb dL_moves_367 (lv_at hl 1 rfl) ?_
            refine isub_n (a := p0) (b := t) hx hb (by omega) dL_moves_369 ?_
            refine lv_goto (tgt := 378) hx hb dL_moves_370 (by decide) ?_
            refine lv_istore (lv' := [(14, .int (nI (p0 - t))), (13, .int 0), (12, .int (nI t)), (0, .ref a), (1, .ref b), (2, .int (nI n)), (6, .int 1), (7, .int (nI o)), (8, .int (nI p0)), (9, .int (nI (p0 + L))), (10, .int (nI w)), (11, .int (nI v))]) hx hb dL_moves_378 hl (by decide) rfl (fun ls hl => ?_)
            refine lv_aload_n hx hb dL_moves_380 rfl (lv_at hl 3 rfl) ?_
            refine lv_bipush (v := 10) hx hb dL_moves_381 (by decide) ?_
            refine lv_iload hx hb dL_moves_383 (lv_at hl 7 rfl) ?_
            refine lv_iload hx hb dL_moves_385 (lv_at hl 2 rfl) ?_
            refine lv_iconst (v := 0) hx hb dL_moves_387 (by decide) ?_
            refine cl_o2 (rSP (A := blk a (a + 170)) (As := [.ref a, .int 10, .int (nI o), .int (nI t), .int 0]) (rest := []) ⟨hx, hb, hml, hown, hts⟩ (c_call_10 l G a X2 (nI o) (nI t) 0 (-9999003) X2 hst (r2x).ho (r2x).hk (mvv_no r2x ho ht hcan)) (va_cwS 5 hts gL_moves_L_call rfl rfl rfl (by decide +kernel) ⟨(Nat.le_of_ble_eq_true rfl), (Nat.le_of_ble_eq_true rfl)⟩) hP hO (thr_at hTh hS (fun q h => Or.inl h)) hN rfl hl.1 (Nat.le_of_ble_eq_true rfl) dL_moves_388 ⟨(Nat.le_of_ble_eq_true rfl), (Nat.le_of_ble_eq_true rfl)⟩) hS (fun q h => Or.inl h) hQ (Or.inl hd) (fun H locs hP hQ hS => ?_)
            refine lv_iload hx hb dL_moves_391 (lv_at hl 1 rfl) ?_
            refine lv_if_eq (tgt := 401) hx hb dL_moves_393 (by decide) (fun _ => ?_) (fun c23 => absurd (by decide) c23)
            refine lv_ldc (v := (-9999003)) hx hb hown (hts (.constant RL 18 (-9999003)) (by decide +kernel)) dL_moves_401 ?_
            refine lv_icmp_ne (tgt := 464) hx hb dL_moves_403 (by decide) (fun c24 => absurd (by decide) c24) (fun _ => ?_)
            refine lv_aload_n hx hb dL_moves_406 rfl (lv_at hl 4 rfl) ?_
            refine lv_bipush (v := 10) hx hb dL_moves_407 (by decide) ?_
            refine lv_iload hx hb dL_moves_409 (lv_at hl 7 rfl) ?_
            refine lv_iload hx hb dL_moves_411 (lv_at hl 2 rfl) ?_
            refine lv_iconst (v := 0) hx hb dL_moves_413 (by decide) ?_
            refine cl_o2 (rSP (A := blk b (b + 170)) (As := [.ref b, .int 10, .int (nI o), .int (nI t), .int 0]) (rest := []) ⟨hx, hb, hml, hown, hts⟩ (c_call_10 l G b Y2 (nI o) (nI t) 0 (-9999003) Y2 hst (r2y).ho (r2y).hk (mvv_no r2y ho ht hcan)) (va_cwS 5 hts gL_moves_L_call rfl rfl rfl (by decide +kernel) ⟨(Nat.le_of_ble_eq_true rfl), (Nat.le_of_ble_eq_true rfl)⟩) hQ hO (thr_at hTh hS (fun q h => Or.inr h)) hN rfl hl.1 (Nat.le_of_ble_eq_true rfl) dL_moves_414 ⟨(Nat.le_of_ble_eq_true rfl), (Nat.le_of_ble_eq_true rfl)⟩) hS (fun q h => Or.inr h) hP (Or.inr hd) (fun H locs hQ hP hS => ?_)
            refine lv_iload hx hb dL_moves_417 (lv_at hl 1 rfl) ?_
            refine lv_if_eq (tgt := 427) hx hb dL_moves_419 (by decide) (fun _ => ?_) (fun c25 => absurd (by decide) c25)
            refine lv_ldc (v := (-9999003)) hx hb hown (hts (.constant RL 18 (-9999003)) (by decide +kernel)) dL_moves_427 ?_
            refine lv_icmp_ne (tgt := 464) hx hb dL_moves_429 (by decide) (fun c26 => absurd (by decide) c26) (fun _ => ?_)
            refine lv_iload hx hb dL_moves_432 (lv_at hl 1 rfl) ?_
            refine lv_if_eq (tgt := 446) hx hb dL_moves_434 (by decide) (fun _ => ?_) (fun c27 => absurd (by decide) c27)
            refine lv_aload_n hx hb dL_moves_446 rfl (lv_at hl 3 rfl) ?_
            refine lv_iconst (v := 3) hx hb dL_moves_447 (by decide) ?_
            refine lv_iload hx hb dL_moves_448 (lv_at hl 7 rfl) ?_
            refine lv_iconst (v := 3) hx hb dL_moves_450 (by decide) ?_
            refine lv_iconst (v := 0) hx hb dL_moves_451 (by decide) ?_
            refine cl_o2 (rSP (A := blk a (a + 170)) (As := [.ref a, .int 3, .int (nI o), .int 3, .int 0]) (rest := []) ⟨hx, hb, hml, hown, hts⟩ (c_call_3 l G a X2 (nI o) 3 0 (nI p0) X2 hst ((rd_car3 r2x ho).trans (by rw [ep3]))) (va_cwS 5 hts gL_moves_L_call rfl rfl rfl (by decide +kernel) ⟨(Nat.le_of_ble_eq_true rfl), (Nat.le_of_ble_eq_true rfl)⟩) hP hO (thr_at hTh hS (fun q h => Or.inl h)) hN rfl hl.1 (Nat.le_of_ble_eq_true rfl) dL_moves_452 ⟨(Nat.le_of_ble_eq_true rfl), (Nat.le_of_ble_eq_true rfl)⟩) hS (fun q h => Or.inl h) hQ (Or.inl hd) (fun H locs hP hQ hS => ?_)
            refine lv_iload hx hb dL_moves_455 (lv_at hl 8 rfl) ?_
            refine lv_icmp_ne (tgt := 464) hx hb dL_moves_457 (by decide) (fun c28 => absurd (congrArg nI (show (p0 : Nat) = p0 by omega)) c28) (fun _ => ?_)
            refine lv_iconst (v := 1) hx hb dL_moves_460 (by decide) ?_
            refine lv_goto (tgt := 465) hx hb dL_moves_461 (by decide) ?_
            refine lv_istore (lv' := [(6, .int 1), (14, .int (nI (p0 - t))), (13, .int 0), (12, .int (nI t)), (0, .ref a), (1, .ref b), (2, .int (nI n)), (7, .int (nI o)), (8, .int (nI p0)), (9, .int (nI (p0 + L))), (10, .int (nI w)), (11, .int (nI v))]) hx hb dL_moves_465 hl (by decide) rfl (fun ls hl => ?_)
            refine lv_iload hx hb dL_moves_467 (lv_at hl 0 rfl) ?_
            exact W.widen (k := 200) (n := 1200) (Nat.le_of_ble_eq_true rfl) (Nat.le_of_ble_eq_true rfl) (W.zret (ty := .boolean) hx hb hr rfl (fun t ht hW => ⟨rfl, by rw [ht]; exact ⟨_, _, _, hP, hQ, r2x, r2y, c2x, c2y⟩, hS.F ht⟩) hS.2.2 dL_moves_469)
        · have c15f : ¬ v < ((t + (p0 + L)) - p0) := fun z => c15 ((nI_ltI (a := v) (b := (t + (p0 + L)) - p0) (by omega) (by omega)).mpr z)
          have hcan : ¬ f_X7_canMove (mN M2) o t = 0 := (can_iff r2x.nw.2 pk ht).mpr (by omega)
          obtain ⟨x1, x2, x3, x4, x5, x6⟩ := move_X r2x c2x ho ht hcan
          obtain ⟨y1, y2, y3, y4, y5, y6⟩ := move_X r2y c2y ho ht hcan
          have hdi : dist (px (mN M2) o) t = (t - p0) + (p0 - t) := by rw [pk.ep]; rfl
          refine lv_iconst (v := 1) hx hb dL_moves_351 (by decide) ?_
          refine lv_goto (tgt := 356) hx hb dL_moves_352 (by decide) ?_
          refine lv_istore (lv' := [(13, .int 1), (12, .int (nI t)), (0, .ref a), (1, .ref b), (2, .int (nI n)), (6, .int 1), (7, .int (nI o)), (8, .int (nI p0)), (9, .int (nI (p0 + L))), (10, .int (nI w)), (11, .int (nI v))]) hx hb dL_moves_356 hl (by decide) rfl (fun ls hl => ?_)
          refine lv_iload hx hb dL_moves_358 (lv_at hl 1 rfl) ?_
          refine lv_iload hx hb dL_moves_360 (lv_at hl 7 rfl) ?_
          refine lv_icmp_ge (tgt := 373) hx hb dL_moves_362 (by decide) (fun c29 => ?_) (fun c29 => ?_)
          · have c29f : p0 ≤ t := (nI_leI (a := p0) (b := t) (by omega) (by omega)).mp c29
            refine lv_iload hx hb dL_moves_373 (lv_at hl 1 rfl) ?_
            refine lv_iload hx hb dL_moves_375 (lv_at hl 7 rfl) ?_
            refine isub_n (a := t) (b := p0) hx hb (by omega) dL_moves_377 ?_
            refine lv_istore (lv' := [(14, .int (nI (t - p0))), (13, .int 1), (12, .int (nI t)), (0, .ref a), (1, .ref b), (2, .int (nI n)), (6, .int 1), (7, .int (nI o)), (8, .int (nI p0)), (9, .int (nI (p0 + L))), (10, .int (nI w)), (11, .int (nI v))]) hx hb dL_moves_378 hl (by decide) rfl (fun ls hl => ?_)
            refine lv_aload_n hx hb dL_moves_380 rfl (lv_at hl 3 rfl) ?_
            refine lv_bipush (v := 10) hx hb dL_moves_381 (by decide) ?_
            refine lv_iload hx hb dL_moves_383 (lv_at hl 7 rfl) ?_
            refine lv_iload hx hb dL_moves_385 (lv_at hl 2 rfl) ?_
            refine lv_iconst (v := 0) hx hb dL_moves_387 (by decide) ?_
            refine cl_o2 (rSP (A := blk a (a + 170)) (As := [.ref a, .int 10, .int (nI o), .int (nI t), .int 0]) (rest := []) ⟨hx, hb, hml, hown, hts⟩ (c_call_10 l G a X2 (nI o) (nI t) 0 (nI (dist (px (mN M2) o) t)) (vX X2 o t) hst (r2x).ho (r2x).hk x1) (va_cwS 5 hts gL_moves_L_call rfl rfl rfl (by decide +kernel) ⟨(Nat.le_of_ble_eq_true rfl), (Nat.le_of_ble_eq_true rfl)⟩) hP hO (thr_at hTh hS (fun q h => Or.inl h)) hN rfl hl.1 (Nat.le_of_ble_eq_true rfl) dL_moves_388 ⟨(Nat.le_of_ble_eq_true rfl), (Nat.le_of_ble_eq_true rfl)⟩) hS (fun q h => Or.inl h) hQ (Or.inl hd) (fun H locs hP hQ hS => ?_)
            refine lv_iload hx hb dL_moves_391 (lv_at hl 1 rfl) ?_
            refine lv_if_eq (tgt := 401) hx hb dL_moves_393 (by decide) (fun c30 => absurd c30 (by decide)) (fun _ => ?_)
            refine lv_iload hx hb dL_moves_396 (lv_at hl 0 rfl) ?_
            refine lv_goto (tgt := 403) hx hb dL_moves_398 (by decide) ?_
            refine lv_icmp_ne (tgt := 464) hx hb dL_moves_403 (by decide) (fun c31 => absurd (congrArg nI (show (dist (px (mN M2) o) t : Nat) = t - p0 by omega)) c31) (fun _ => ?_)
            refine lv_aload_n hx hb dL_moves_406 rfl (lv_at hl 4 rfl) ?_
            refine lv_bipush (v := 10) hx hb dL_moves_407 (by decide) ?_
            refine lv_iload hx hb dL_moves_409 (lv_at hl 7 rfl) ?_
            refine lv_iload hx hb dL_moves_411 (lv_at hl 2 rfl) ?_
            refine lv_iconst (v := 0) hx hb dL_moves_413 (by decide) ?_
            refine cl_o2 (rSP (A := blk b (b + 170)) (As := [.ref b, .int 10, .int (nI o), .int (nI t), .int 0]) (rest := []) ⟨hx, hb, hml, hown, hts⟩ (c_call_10 l G b Y2 (nI o) (nI t) 0 (nI (dist (px (mN M2) o) t)) (vX Y2 o t) hst (r2y).ho (r2y).hk y1) (va_cwS 5 hts gL_moves_L_call rfl rfl rfl (by decide +kernel) ⟨(Nat.le_of_ble_eq_true rfl), (Nat.le_of_ble_eq_true rfl)⟩) hQ hO (thr_at hTh hS (fun q h => Or.inr h)) hN rfl hl.1 (Nat.le_of_ble_eq_true rfl) dL_moves_414 ⟨(Nat.le_of_ble_eq_true rfl), (Nat.le_of_ble_eq_true rfl)⟩) hS (fun q h => Or.inr h) hP (Or.inr hd) (fun H locs hQ hP hS => ?_)
            refine lv_iload hx hb dL_moves_417 (lv_at hl 1 rfl) ?_
            refine lv_if_eq (tgt := 427) hx hb dL_moves_419 (by decide) (fun c32 => absurd c32 (by decide)) (fun _ => ?_)
            refine lv_iload hx hb dL_moves_422 (lv_at hl 0 rfl) ?_
            refine lv_goto (tgt := 429) hx hb dL_moves_424 (by decide) ?_
            refine lv_icmp_ne (tgt := 464) hx hb dL_moves_429 (by decide) (fun c33 => absurd (congrArg nI (show (dist (px (mN M2) o) t : Nat) = t - p0 by omega)) c33) (fun _ => ?_)
            refine lv_iload hx hb dL_moves_432 (lv_at hl 1 rfl) ?_
            refine lv_if_eq (tgt := 446) hx hb dL_moves_434 (by decide) (fun c34 => absurd c34 (by decide)) (fun _ => ?_)
            refine lv_aload_n hx hb dL_moves_437 rfl (lv_at hl 3 rfl) ?_
            refine lv_aload_n hx hb dL_moves_438 rfl (lv_at hl 4 rfl) ?_
            refine lv_iconst (v := 1) hx hb dL_moves_439 (by decide) ?_
            refine cl_ci (rSP (A := (fun q => blk a (a + 170) q ∨ blk b (b + 170) q)) (As := [.ref a, .ref b, .int 1]) (rest := []) ⟨hx, hb, hml, hown, hts⟩ (c_L_undoes l G a b hd (vX X2 o t) (vX Y2 o t) (vM M2 o t) 1 hst x2 y2 (by omega) (by rw [un2_1]; omega) (by rw [un2_1]; omega)) (va_cwS 3 hts gL_moves_L_undoes rfl rfl rfl (by decide +kernel) ⟨(Nat.le_of_ble_eq_true rfl), (Nat.le_of_ble_eq_true rfl)⟩) ⟨hP, hQ⟩ hO (thr_at hTh hS (fun q h => h)) hN rfl hl.1 (Nat.le_of_ble_eq_true rfl) dL_moves_440 ⟨(Nat.le_of_ble_eq_true rfl), (Nat.le_of_ble_eq_true rfl)⟩) hS (fun q h => h) (fun H locs hP9 hz hk hS => ?_)
            obtain ⟨hP, hQ⟩ := hP9
            rw [ut_1] at hP hQ
            refine lv_if_eq (tgt := 464) hx hb dL_moves_443 (by decide) (fun c35 => absurd c35 (by decide)) (fun _ => ?_)
            refine lv_aload_n hx hb dL_moves_446 rfl (lv_at hl 3 rfl) ?_
            refine lv_iconst (v := 3) hx hb dL_moves_447 (by decide) ?_
            refine lv_iload hx hb dL_moves_448 (lv_at hl 7 rfl) ?_
            refine lv_iconst (v := 3) hx hb dL_moves_450 (by decide) ?_
            refine lv_iconst (v := 0) hx hb dL_moves_451 (by decide) ?_
            refine cl_o2 (rSP (A := blk a (a + 170)) (As := [.ref a, .int 3, .int (nI o), .int 3, .int 0]) (rest := []) ⟨hx, hb, hml, hown, hts⟩ (c_call_3 l G a (un (vX X2 o t)) (nI o) 3 0 (nI p0) (un (vX X2 o t)) hst ((rd_car3 x4 (by rw [gm_N r2x x4 x6]; exact ho)).trans (by rw [at_N r2x x4 x6 ho, ep3]))) (va_cwS 5 hts gL_moves_L_call rfl rfl rfl (by decide +kernel) ⟨(Nat.le_of_ble_eq_true rfl), (Nat.le_of_ble_eq_true rfl)⟩) hP hO (thr_at hTh hS (fun q h => Or.inl h)) hN rfl hl.1 (Nat.le_of_ble_eq_true rfl) dL_moves_452 ⟨(Nat.le_of_ble_eq_true rfl), (Nat.le_of_ble_eq_true rfl)⟩) hS (fun q h => Or.inl h) hQ (Or.inl hd) (fun H locs hP hQ hS => ?_)
            refine lv_iload hx hb dL_moves_455 (lv_at hl 8 rfl) ?_
            refine lv_icmp_ne (tgt := 464) hx hb dL_moves_457 (by decide) (fun c36 => absurd (congrArg nI (show (p0 : Nat) = p0 by omega)) c36) (fun _ => ?_)
            refine lv_iconst (v := 1) hx hb dL_moves_460 (by decide) ?_
            refine lv_goto (tgt := 465) hx hb dL_moves_461 (by decide) ?_
            refine lv_istore (lv' := [(6, .int 1), (14, .int (nI (t - p0))), (13, .int 1), (12, .int (nI t)), (0, .ref a), (1, .ref b), (2, .int (nI n)), (7, .int (nI o)), (8, .int (nI p0)), (9, .int (nI (p0 + L))), (10, .int (nI w)), (11, .int (nI v))]) hx hb dL_moves_465 hl (by decide) rfl (fun ls hl => ?_)
            refine lv_iload hx hb dL_moves_467 (lv_at hl 0 rfl) ?_
            exact W.widen (k := 200) (n := 1200) (Nat.le_of_ble_eq_true rfl) (Nat.le_of_ble_eq_true rfl) (W.zret (ty := .boolean) hx hb hr rfl (fun t ht hW => ⟨rfl, by rw [ht]; exact ⟨_, _, _, hP, hQ, x4, y4, x5, y5⟩, hS.F ht⟩) hS.2.2 dL_moves_469)
          · have c29f : ¬ p0 ≤ t := fun z => c29 ((nI_leI (a := p0) (b := t) (by omega) (by omega)).mpr z)
            refine lv_iload hx hb dL_moves_365 (lv_at hl 7 rfl) ?_
            refine lv_iload hx hb dL_moves_367 (lv_at hl 1 rfl) ?_
            refine isub_n (a := p0) (b := t) hx hb (by omega) dL_moves_369 ?_
            refine lv_goto (tgt := 378) hx hb dL_moves_370 (by decide) ?_
            refine lv_istore (lv' := [(14, .int (nI (p0 - t))), (13, .int 1), (12, .int (nI t)), (0, .ref a), (1, .ref b), (2, .int (nI n)), (6, .int 1), (7, .int (nI o)), (8, .int (nI p0)), (9, .int (nI (p0 + L))), (10, .int (nI w)), (11, .int (nI v))]) hx hb dL_moves_378 hl (by decide) rfl (fun ls hl => ?_)
            refine lv_aload_n hx hb dL_moves_380 rfl (lv_at hl 3 rfl) ?_
            refine lv_bipush (v := 10) hx hb dL_moves_381 (by decide) ?_
            refine lv_iload hx hb dL_moves_383 (lv_at hl 7 rfl) ?_
            refine lv_iload hx hb dL_moves_385 (lv_at hl 2 rfl) ?_
            refine lv_iconst (v := 0) hx hb dL_moves_387 (by decide) ?_
            refine cl_o2 (rSP (A := blk a (a + 170)) (As := [.ref a, .int 10, .int (nI o), .int (nI t), .int 0]) (rest := []) ⟨hx, hb, hml, hown, hts⟩ (c_call_10 l G a X2 (nI o) (nI t) 0 (nI (dist (px (mN M2) o) t)) (vX X2 o t) hst (r2x).ho (r2x).hk x1) (va_cwS 5 hts gL_moves_L_call rfl rfl rfl (by decide +kernel) ⟨(Nat.le_of_ble_eq_true rfl), (Nat.le_of_ble_eq_true rfl)⟩) hP hO (thr_at hTh hS (fun q h => Or.inl h)) hN rfl hl.1 (Nat.le_of_ble_eq_true rfl) dL_moves_388 ⟨(Nat.le_of_ble_eq_true rfl), (Nat.le_of_ble_eq_true rfl)⟩) hS (fun q h => Or.inl h) hQ (Or.inl hd) (fun H locs hP hQ hS => ?_)
            refine lv_iload hx hb dL_moves_391 (lv_at hl 1 rfl) ?_
            refine lv_if_eq (tgt := 401) hx hb dL_moves_393 (by decide) (fun c37 => absurd c37 (by decide)) (fun _ => ?_)
            refine lv_iload hx hb dL_moves_396 (lv_at hl 0 rfl) ?_
            refine lv_goto (tgt := 403) hx hb dL_moves_398 (by decide) ?_
            refine lv_icmp_ne (tgt := 464) hx hb dL_moves_403 (by decide) (fun c38 => absurd (congrArg nI (show (dist (px (mN M2) o) t : Nat) = p0 - t by omega)) c38) (fun _ => ?_)
            refine lv_aload_n hx hb dL_moves_406 rfl (lv_at hl 4 rfl) ?_
            refine lv_bipush (v := 10) hx hb dL_moves_407 (by decide) ?_
            refine lv_iload hx hb dL_moves_409 (lv_at hl 7 rfl) ?_
            refine lv_iload hx hb dL_moves_411 (lv_at hl 2 rfl) ?_
            refine lv_iconst (v := 0) hx hb dL_moves_413 (by decide) ?_
            refine cl_o2 (rSP (A := blk b (b + 170)) (As := [.ref b, .int 10, .int (nI o), .int (nI t), .int 0]) (rest := []) ⟨hx, hb, hml, hown, hts⟩ (c_call_10 l G b Y2 (nI o) (nI t) 0 (nI (dist (px (mN M2) o) t)) (vX Y2 o t) hst (r2y).ho (r2y).hk y1) (va_cwS 5 hts gL_moves_L_call rfl rfl rfl (by decide +kernel) ⟨(Nat.le_of_ble_eq_true rfl), (Nat.le_of_ble_eq_true rfl)⟩) hQ hO (thr_at hTh hS (fun q h => Or.inr h)) hN rfl hl.1 (Nat.le_of_ble_eq_true rfl) dL_moves_414 ⟨(Nat.le_of_ble_eq_true rfl), (Nat.le_of_ble_eq_true rfl)⟩) hS (fun q h => Or.inr h) hP (Or.inr hd) (fun H locs hQ hP hS => ?_)
            refine lv_iload hx hb dL_moves_417 (lv_at hl 1 rfl) ?_
            refine lv_if_eq (tgt := 427) hx hb dL_moves_419 (by decide) (fun c39 => absurd c39 (by decide)) (fun _ => ?_)
            refine lv_iload hx hb dL_moves_422 (lv_at hl 0 rfl) ?_
            refine lv_goto (tgt := 429) hx hb dL_moves_424 (by decide) ?_
            refine lv_icmp_ne (tgt := 464) hx hb dL_moves_429 (by decide) (fun c40 => absurd (congrArg nI (show (dist (px (mN M2) o) t : Nat) = p0 - t by omega)) c40) (fun _ => ?_)
            refine lv_iload hx hb dL_moves_432 (lv_at hl 1 rfl) ?_
            refine lv_if_eq (tgt := 446) hx hb dL_moves_434 (by decide) (fun c41 => absurd c41 (by decide)) (fun _ => ?_)
            refine lv_aload_n hx hb dL_moves_437 rfl (lv_at hl 3 rfl) ?_
            refine lv_aload_n hx hb dL_moves_438 rfl (lv_at hl 4 rfl) ?_
            refine lv_iconst (v := 1) hx hb dL_moves_439 (by decide) ?_
            refine cl_ci (rSP (A := (fun q => blk a (a + 170) q ∨ blk b (b + 170) q)) (As := [.ref a, .ref b, .int 1]) (rest := []) ⟨hx, hb, hml, hown, hts⟩ (c_L_undoes l G a b hd (vX X2 o t) (vX Y2 o t) (vM M2 o t) 1 hst x2 y2 (by omega) (by rw [un2_1]; omega) (by rw [un2_1]; omega)) (va_cwS 3 hts gL_moves_L_undoes rfl rfl rfl (by decide +kernel) ⟨(Nat.le_of_ble_eq_true rfl), (Nat.le_of_ble_eq_true rfl)⟩) ⟨hP, hQ⟩ hO (thr_at hTh hS (fun q h => h)) hN rfl hl.1 (Nat.le_of_ble_eq_true rfl) dL_moves_440 ⟨(Nat.le_of_ble_eq_true rfl), (Nat.le_of_ble_eq_true rfl)⟩) hS (fun q h => h) (fun H locs hP9 hz hk hS => ?_)
            obtain ⟨hP, hQ⟩ := hP9
            rw [ut_1] at hP hQ
            refine lv_if_eq (tgt := 464) hx hb dL_moves_443 (by decide) (fun c42 => absurd c42 (by decide)) (fun _ => ?_)
            refine lv_aload_n hx hb dL_moves_446 rfl (lv_at hl 3 rfl) ?_
            refine lv_iconst (v := 3) hx hb dL_moves_447 (by decide) ?_
            refine lv_iload hx hb dL_moves_448 (lv_at hl 7 rfl) ?_
            refine lv_iconst (v := 3) hx hb dL_moves_450 (by decide) ?_
            refine lv_iconst (v := 0) hx hb dL_moves_451 (by decide) ?_
            refine cl_o2 (rSP (A := blk a (a + 170)) (As := [.ref a, .int 3, .int (nI o), .int 3, .int 0]) (rest := []) ⟨hx, hb, hml, hown, hts⟩ (c_call_3 l G a (un (vX X2 o t)) (nI o) 3 0 (nI p0) (un (vX X2 o t)) hst ((rd_car3 x4 (by rw [gm_N r2x x4 x6]; exact ho)).trans (by rw [at_N r2x x4 x6 ho, ep3]))) (va_cwS 5 hts gL_moves_L_call rfl rfl rfl (by decide +kernel) ⟨(Nat.le_of_ble_eq_true rfl), (Nat.le_of_ble_eq_true rfl)⟩) hP hO (thr_at hTh hS (fun q h => Or.inl h)) hN rfl hl.1 (Nat.le_of_ble_eq_true rfl) dL_moves_452 ⟨(Nat.le_of_ble_eq_true rfl), (Nat.le_of_ble_eq_true rfl)⟩) hS (fun q h => Or.inl h) hQ (Or.inl hd) (fun H locs hP hQ hS => ?_)
            refine lv_iload hx hb dL_moves_455 (lv_at hl 8 rfl) ?_
            refine lv_icmp_ne (tgt := 464) hx hb dL_moves_457 (by decide) (fun c43 => absurd (congrArg nI (show (p0 : Nat) = p0 by omega)) c43) (fun _ => ?_)
            refine lv_iconst (v := 1) hx hb dL_moves_460 (by decide) ?_
            refine lv_goto (tgt := 465) hx hb dL_moves_461 (by decide) ?_
            refine lv_istore (lv' := [(6, .int 1), (14, .int (nI (p0 - t))), (13, .int 1), (12, .int (nI t)), (0, .ref a), (1, .ref b), (2, .int (nI n)), (7, .int (nI o)), (8, .int (nI p0)), (9, .int (nI (p0 + L))), (10, .int (nI w)), (11, .int (nI v))]) hx hb dL_moves_465 hl (by decide) rfl (fun ls hl => ?_)
            refine lv_iload hx hb dL_moves_467 (lv_at hl 0 rfl) ?_
            exact W.widen (k := 200) (n := 1200) (Nat.le_of_ble_eq_true rfl) (Nat.le_of_ble_eq_true rfl) (W.zret (ty := .boolean) hx hb hr rfl (fun t ht hW => ⟨rfl, by rw [ht]; exact ⟨_, _, _, hP, hQ, x4, y4, x5, y5⟩, hS.F ht⟩) hS.2.2 dL_moves_469)
    have cut295 : ∀ (n295 : Nat) (p0 : Nat) (L : Nat) (B : Nat) (A : Nat) (w : Nat) (v : Nat), 80 < v + n295 → Pk (mN M2) o p0 L B A → p0 = w + B → p0 + L ≤ v → v ≤ p0 + L + A → ∀ (H : Heap) (locs : List Loc) (ls : Array Slot), Cb G a X2 H → Cb G b Y2 H → va_S (fun q => blk a (a + 170) q ∨ blk b (b + 170) q) s.heap H locs → lv_has ls 15 [(0, .ref a), (1, .ref b), (2, .int (nI n)), (6, .int 1), (7, .int (nI o)), (8, .int (nI p0)), (9, .int (nI (p0 + L))), (10, .int (nI w)), (11, .int (nI v))] → W p l e (headSpec wsL_moves ({ frames := 13, cells := 200, slots := 1200, locals := 234 } : Room)).room s m ([.ref a, .ref b, .int (nI n)] : List Value).toArray below meth cd H locs (97 + (v - (p0 + L))) (582 + 6 * (v - (p0 + L))) (MQ below (QM (some (.int 1)) (fun H => ∃ X1 Y1 M1, Cb G a X1 H ∧ Cb G b Y1 H ∧ RelX X1 M1 ∧ RelX Y1 M1 ∧ Ch X1 ∧ Ch Y1) (fun q => blk a (a + 170) q ∨ blk b (b + 170) q)) ([.ref a, .ref b, .int (nI n)] : List Value).toArray s 200 1200 (fun q => blk a (a + 170) q ∨ blk b (b + 170) q)) (F0 m 295 ls []) := by
      intro n295
      induction n295 with
      | zero =>
        intro p0 L B A w v hn295 pk hw hv1 hv2
        have a2 := pk.all.2.1
        omega
      | succ n295 ih295 =>
        intro p0 L B A w v hn295 pk hw hv1 hv2 H locs ls hP hQ hS hl
        obtain ⟨a1, a2, fB, fA, mB, mA⟩ := pk.all
        have hL2 := pk.L2
        refine lv_iload hx hb dL_moves_295 (lv_at hl 8 rfl) ?_
        refine lv_bipush (v := 80) hx hb dL_moves_297 (by decide) ?_
        refine lv_icmp_ge (tgt := 321) hx hb dL_moves_299 (by decide) (fun c44 => ?_) (fun c44 => ?_)
        · have c44f : 80 ≤ v := (nI_leI (a := 80) (b := v) (by omega) (by omega)).mp c44
          refine W.widen (k := 177) (n := 1062) (by omega) (by omega) ?_
          exact cut321 p0 L B A w v pk (by omega) (by omega) _ _ _ hP hQ hS (lv_sub hl [0, 1, 2, 3, 4, 5, 6, 7, 8] rfl)
        · have c44f : ¬ 80 ≤ v := fun z => c44 ((nI_leI (a := 80) (b := v) (by omega) (by omega)).mpr z)
          refine lv_aload_n hx hb dL_moves_302 rfl (lv_at hl 0 rfl) ?_
          refine lv_iconst (v := 4) hx hb dL_moves_303 (by decide) ?_
          refine lv_iload hx hb dL_moves_304 (lv_at hl 8 rfl) ?_
          refine lv_iconst (v := 0) hx hb dL_moves_306 (by decide) ?_
          refine lv_iconst (v := 0) hx hb dL_moves_307 (by decide) ?_
          refine cl_o2 (rSP (A := blk a (a + 170)) (As := [.ref a, .int 4, .int (nI v), .int 0, .int 0]) (rest := []) ⟨hx, hb, hml, hown, hts⟩ (c_call_4 l G a X2 (nI v) 0 0 ((mN M2) (7 + v)) X2 hst (rd_at r2x (x := v) (by omega))) (va_cwS 5 hts gL_moves_L_call rfl rfl rfl (by decide +kernel) ⟨(Nat.le_of_ble_eq_true rfl), (Nat.le_of_ble_eq_true rfl)⟩) hP hO (thr_at hTh hS (fun q h => Or.inl h)) hN rfl hl.1 (Nat.le_of_ble_eq_true rfl) dL_moves_308 ⟨(by show 97 + (v - (p0 + L)) + 1 ≤ 200; omega), (by show 582 + 6 * (v - (p0 + L)) + 6 ≤ 1200; omega)⟩) hS (fun q h => Or.inl h) hQ (Or.inl hd) (fun H locs hP hQ hS => ?_)
          refine lv_iconst (v := -1) hx hb dL_moves_311 (by decide) ?_
          refine lv_icmp_ne (tgt := 321) hx hb dL_moves_312 (by decide) (fun c45 => ?_) (fun c45 => ?_)
          · have hen := high_end pk hv1 hv2 c45
            refine W.widen (k := 177) (n := 1062) (by omega) (by omega) ?_
            exact cut321 p0 L B A w v pk (by omega) (by omega) _ _ _ hP hQ hS (lv_sub hl [0, 1, 2, 3, 4, 5, 6, 7, 8] rfl)
          · have hmo := high_more pk hv1 hv2 (by omega) c45
            refine lv_iinc (v := nI (v + 1)) (lv' := [(11, .int (nI (v + 1))), (0, .ref a), (1, .ref b), (2, .int (nI n)), (6, .int 1), (7, .int (nI o)), (8, .int (nI p0)), (9, .int (nI (p0 + L))), (10, .int (nI w))]) hx hb dL_moves_315 hl (k := 8) rfl (nI_1 _) (by decide) rfl (fun ls hl => ?_)
            refine lv_goto (tgt := 295) hx hb dL_moves_318 (by decide) ?_
            refine W.widen (k := 97 + ((v + 1) - (p0 + L))) (n := 582 + 6 * ((v + 1) - (p0 + L))) (by omega) (by omega) ?_
            exact ih295 p0 L B A w (v + 1) (by omega) pk (by omega) (by omega) (by omega) _ _ _ hP hQ hS (lv_sub hl [1, 2, 3, 4, 5, 6, 7, 8, 0] rfl)
    have cut269 : ∀ (n269 : Nat) (p0 : Nat) (L : Nat) (B : Nat) (A : Nat) (w : Nat), 80 < (80 - w) + n269 → Pk (mN M2) o p0 L B A → w ≤ p0 → p0 ≤ w + B → ∀ (H : Heap) (locs : List Loc) (ls : Array Slot), Cb G a X2 H → Cb G b Y2 H → va_S (fun q => blk a (a + 170) q ∨ blk b (b + 170) q) s.heap H locs → lv_has ls 15 [(0, .ref a), (1, .ref b), (2, .int (nI n)), (6, .int 1), (7, .int (nI o)), (8, .int (nI p0)), (9, .int (nI (p0 + L))), (10, .int (nI w)), (11, .int (nI (p0 + L)))] → W p l e (headSpec wsL_moves ({ frames := 13, cells := 200, slots := 1200, locals := 234 } : Room)).room s m ([.ref a, .ref b, .int (nI n)] : List Value).toArray below meth cd H locs (17 + (p0 - w)) (102 + 6 * (p0 - w)) (MQ below (QM (some (.int 1)) (fun H => ∃ X1 Y1 M1, Cb G a X1 H ∧ Cb G b Y1 H ∧ RelX X1 M1 ∧ RelX Y1 M1 ∧ Ch X1 ∧ Ch Y1) (fun q => blk a (a + 170) q ∨ blk b (b + 170) q)) ([.ref a, .ref b, .int (nI n)] : List Value).toArray s 200 1200 (fun q => blk a (a + 170) q ∨ blk b (b + 170) q)) (F0 m 269 ls []) := by
      intro n269
      induction n269 with
      | zero =>
        intro p0 L B A w hn269 pk hw1 hw2
        omega
      | succ n269 ih269 =>
        intro p0 L B A w hn269 pk hw1 hw2 H locs ls hP hQ hS hl
        obtain ⟨a1, a2, fB, fA, mB, mA⟩ := pk.all
        have hL2 := pk.L2
        refine lv_iload hx hb dL_moves_269 (lv_at hl 7 rfl) ?_
        refine lv_if_le (tgt := 295) hx hb dL_moves_271 (by decide) (fun c46 => ?_) (fun c46 => ?_)
        · have c46f : w ≤ 0 := (nI_leI (a := w) (b := 0) (by omega) (by omega)).mp c46
          refine W.widen (k := 97 + ((p0 + L) - (p0 + L))) (n := 582 + 6 * ((p0 + L) - (p0 + L))) (by omega) (by omega) ?_
          exact cut295 (80 + 1) p0 L B A w (p0 + L) (by omega) pk (by omega) (by omega) (by omega) _ _ _ hP hQ hS (lv_sub hl [0, 1, 2, 3, 4, 5, 6, 7, 8] rfl)
        · have c46f : ¬ w ≤ 0 := fun z => c46 ((nI_leI (a := w) (b := 0) (by omega) (by omega)).mpr z)
          refine lv_aload_n hx hb dL_moves_274 rfl (lv_at hl 0 rfl) ?_
          refine lv_iconst (v := 4) hx hb dL_moves_275 (by decide) ?_
          refine lv_iload hx hb dL_moves_276 (lv_at hl 7 rfl) ?_
          refine lv_iconst (v := 1) hx hb dL_moves_278 (by decide) ?_
          refine isub_n (a := w) (b := 1) hx hb (by omega) dL_moves_279 ?_
          refine lv_iconst (v := 0) hx hb dL_moves_280 (by decide) ?_
          refine lv_iconst (v := 0) hx hb dL_moves_281 (by decide) ?_
          refine cl_o2 (rSP (A := blk a (a + 170)) (As := [.ref a, .int 4, .int (nI (w - 1)), .int 0, .int 0]) (rest := []) ⟨hx, hb, hml, hown, hts⟩ (c_call_4 l G a X2 (nI (w - 1)) 0 0 ((mN M2) (7 + (w - 1))) X2 hst (rd_at r2x (x := w - 1) (by omega))) (va_cwS 5 hts gL_moves_L_call rfl rfl rfl (by decide +kernel) ⟨(Nat.le_of_ble_eq_true rfl), (Nat.le_of_ble_eq_true rfl)⟩) hP hO (thr_at hTh hS (fun q h => Or.inl h)) hN rfl hl.1 (Nat.le_of_ble_eq_true rfl) dL_moves_282 ⟨(by show 17 + (p0 - w) + 1 ≤ 200; omega), (by show 102 + 6 * (p0 - w) + 6 ≤ 1200; omega)⟩) hS (fun q h => Or.inl h) hQ (Or.inl hd) (fun H locs hP hQ hS => ?_)
          refine lv_iconst (v := -1) hx hb dL_moves_285 (by decide) ?_
          refine lv_icmp_ne (tgt := 295) hx hb dL_moves_286 (by decide) (fun c47 => ?_) (fun c47 => ?_)
          · have hen := low_end pk hw1 hw2 c47
            refine W.widen (k := 97 + ((p0 + L) - (p0 + L))) (n := 582 + 6 * ((p0 + L) - (p0 + L))) (by omega) (by omega) ?_
            exact cut295 (80 + 1) p0 L B A w (p0 + L) (by omega) pk (by omega) (by omega) (by omega) _ _ _ hP hQ hS (lv_sub hl [0, 1, 2, 3, 4, 5, 6, 7, 8] rfl)
          · have hmo := low_more pk hw1 hw2 (by omega) c47
            refine lv_iinc (v := nI (w - 1)) (lv' := [(10, .int (nI (w - 1))), (0, .ref a), (1, .ref b), (2, .int (nI n)), (6, .int 1), (7, .int (nI o)), (8, .int (nI p0)), (9, .int (nI (p0 + L))), (11, .int (nI (p0 + L)))]) hx hb dL_moves_289 hl (k := 7) rfl (sub_1 (by omega)) (by decide) rfl (fun ls hl => ?_)
            refine lv_goto (tgt := 269) hx hb dL_moves_292 (by decide) ?_
            refine W.widen (k := 17 + (p0 - (w - 1))) (n := 102 + 6 * (p0 - (w - 1))) (by omega) (by omega) ?_
            exact ih269 p0 L B A (w - 1) (by omega) pk (by omega) (by omega) _ _ _ hP hQ hS (lv_sub hl [1, 2, 3, 4, 5, 6, 7, 0, 8] rfl)
    refine lv_iload_n hx hb dL_moves_210 rfl (lv_at hl 2 rfl) ?_
    refine lv_bipush (v := 7) hx hb dL_moves_211 (by decide) ?_
    refine idiv_n (a := n) (b := 7) hx hb ⟨by omega, by decide, by decide⟩ dL_moves_213 ?_
    refine lv_aload_n hx hb dL_moves_214 rfl (lv_at hl 0 rfl) ?_
    refine lv_iconst (v := 2) hx hb dL_moves_215 (by decide) ?_
    refine lv_iconst (v := 0) hx hb dL_moves_216 (by decide) ?_
    refine lv_iconst (v := 0) hx hb dL_moves_217 (by decide) ?_
    refine lv_iconst (v := 0) hx hb dL_moves_218 (by decide) ?_
    refine cl_o2 (rSP (A := blk a (a + 170)) (As := [.ref a, .int 2, .int 0, .int 0, .int 0]) (rest := [.int (nI (n / 7))]) ⟨hx, hb, hml, hown, hts⟩ (c_call_2 l G a X2 0 0 0 (nI (gm (mN M2))) X2 hst (rd_ab0 r2x)) (va_cwS 5 hts gL_moves_L_call rfl rfl rfl (by decide +kernel) ⟨(Nat.le_of_ble_eq_true rfl), (Nat.le_of_ble_eq_true rfl)⟩) hP hO (thr_at hTh hS (fun q h => Or.inl h)) hN rfl hl.1 (Nat.le_of_ble_eq_true rfl) dL_moves_219 ⟨(Nat.le_of_ble_eq_true rfl), (Nat.le_of_ble_eq_true rfl)⟩) hS (fun q h => Or.inl h) hQ (Or.inl hd) (fun H locs hP hQ hS => ?_)
    refine irem_n (a := n / 7) (b := gm (mN M2)) hx hb ⟨by omega, by omega, by omega⟩ dL_moves_222 ?_
    rw [show nI ((n / 7) % (gm (mN M2))) = nI o from congrArg nI eo]
    refine lv_istore (lv' := [(7, .int (nI o)), (0, .ref a), (1, .ref b), (2, .int (nI n)), (6, .int 1)]) hx hb dL_moves_223 hl (by decide) rfl (fun ls hl => ?_)
    refine lv_aload_n hx hb dL_moves_225 rfl (lv_at hl 1 rfl) ?_
    refine lv_iconst (v := 3) hx hb dL_moves_226 (by decide) ?_
    refine lv_iload hx hb dL_moves_227 (lv_at hl 0 rfl) ?_
    refine lv_iconst (v := 3) hx hb dL_moves_229 (by decide) ?_
    refine lv_iconst (v := 0) hx hb dL_moves_230 (by decide) ?_
    refine cl_o2 (rSP (A := blk a (a + 170)) (As := [.ref a, .int 3, .int (nI o), .int 3, .int 0]) (rest := []) ⟨hx, hb, hml, hown, hts⟩ (c_call_3 l G a X2 (nI o) 3 0 (f_X7_of (mN M2) o 3) X2 hst (rd_car3 r2x ho)) (va_cwS 5 hts gL_moves_L_call rfl rfl rfl (by decide +kernel) ⟨(Nat.le_of_ble_eq_true rfl), (Nat.le_of_ble_eq_true rfl)⟩) hP hO (thr_at hTh hS (fun q h => Or.inl h)) hN rfl hl.1 (Nat.le_of_ble_eq_true rfl) dL_moves_231 ⟨(Nat.le_of_ble_eq_true rfl), (Nat.le_of_ble_eq_true rfl)⟩) hS (fun q h => Or.inl h) hQ (Or.inl hd) (fun H locs hP hQ hS => ?_)
    refine lv_istore (lv' := [(8, .int (f_X7_of (mN M2) o 3)), (7, .int (nI o)), (0, .ref a), (1, .ref b), (2, .int (nI n)), (6, .int 1)]) hx hb dL_moves_234 hl (by decide) rfl (fun ls hl => ?_)
    refine lv_iload hx hb dL_moves_236 (lv_at hl 0 rfl) ?_
    refine lv_iconst (v := -1) hx hb dL_moves_238 (by decide) ?_
    refine lv_icmp_eq (tgt := 467) hx hb dL_moves_239 (by decide) (fun c48 => ?_) (fun c48 => ?_)
    · refine lv_iload hx hb dL_moves_467 (lv_at hl 5 rfl) ?_
      exact W.widen (k := 200) (n := 1200) (Nat.le_of_ble_eq_true rfl) (Nat.le_of_ble_eq_true rfl) (W.zret (ty := .boolean) hx hb hr rfl (fun t ht hW => ⟨rfl, by rw [ht]; exact ⟨_, _, _, hP, hQ, r2x, r2y, c2x, c2y⟩, hS.F ht⟩) hS.2.2 dL_moves_469)
    · have hpk := at_pk r2x.nw.2 ho c48
      obtain ⟨ep, -, hp8⟩ := r2x.nw.2.ri.X ho hpk
      rw [ep] at hl
      have pk := pk_of r2x.nw ho hpk
      refine lv_iload hx hb dL_moves_242 (lv_at hl 5 rfl) ?_
      refine lv_if_eq (tgt := 467) hx hb dL_moves_244 (by decide) (fun c49 => absurd c49 (by decide)) (fun _ => ?_)
      refine lv_iload hx hb dL_moves_247 (lv_at hl 0 rfl) ?_
      refine lv_aload_n hx hb dL_moves_249 rfl (lv_at hl 2 rfl) ?_
      refine lv_iconst (v := 3) hx hb dL_moves_250 (by decide) ?_
      refine lv_iload hx hb dL_moves_251 (lv_at hl 1 rfl) ?_
      refine lv_iconst (v := 0) hx hb dL_moves_253 (by decide) ?_
      refine lv_iconst (v := 0) hx hb dL_moves_254 (by decide) ?_
      refine cl_o2 (rSP (A := blk a (a + 170)) (As := [.ref a, .int 3, .int (nI o), .int 0, .int 0]) (rest := [.int (nI (px (mN M2) o))]) ⟨hx, hb, hml, hown, hts⟩ (c_call_3 l G a X2 (nI o) 0 0 (nI (pj (mN M2) o)) X2 hst (rd_car0 r2x ho)) (va_cwS 5 hts gL_moves_L_call rfl rfl rfl (by decide +kernel) ⟨(Nat.le_of_ble_eq_true rfl), (Nat.le_of_ble_eq_true rfl)⟩) hP hO (thr_at hTh hS (fun q h => Or.inl h)) hN rfl hl.1 (Nat.le_of_ble_eq_true rfl) dL_moves_255 ⟨(Nat.le_of_ble_eq_true rfl), (Nat.le_of_ble_eq_true rfl)⟩) hS (fun q h => Or.inl h) hQ (Or.inl hd) (fun H locs hP hQ hS => ?_)
      refine iadd_n (a := px (mN M2) o) (b := pj (mN M2) o) hx hb dL_moves_258 ?_
      refine lv_istore (lv' := [(9, .int (nI ((px (mN M2) o) + (pj (mN M2) o)))), (8, .int (nI (px (mN M2) o))), (7, .int (nI o)), (0, .ref a), (1, .ref b), (2, .int (nI n)), (6, .int 1)]) hx hb dL_moves_259 hl (by decide) rfl (fun ls hl => ?_)
      refine lv_iload hx hb dL_moves_261 (lv_at hl 1 rfl) ?_
      refine lv_istore (lv' := [(10, .int (nI (px (mN M2) o))), (9, .int (nI ((px (mN M2) o) + (pj (mN M2) o)))), (8, .int (nI (px (mN M2) o))), (7, .int (nI o)), (0, .ref a), (1, .ref b), (2, .int (nI n)), (6, .int 1)]) hx hb dL_moves_263 hl (by decide) rfl (fun ls hl => ?_)
      refine lv_iload hx hb dL_moves_265 (lv_at hl 1 rfl) ?_
      refine lv_istore (lv' := [(11, .int (nI ((px (mN M2) o) + (pj (mN M2) o)))), (10, .int (nI (px (mN M2) o))), (9, .int (nI ((px (mN M2) o) + (pj (mN M2) o)))), (8, .int (nI (px (mN M2) o))), (7, .int (nI o)), (0, .ref a), (1, .ref b), (2, .int (nI n)), (6, .int 1)]) hx hb dL_moves_267 hl (by decide) rfl (fun ls hl => ?_)
      refine W.widen (k := 17 + ((px (mN M2) o) - (px (mN M2) o))) (n := 102 + 6 * ((px (mN M2) o) - (px (mN M2) o))) (by omega) (by omega) ?_
      exact cut269 (80 + 1) (px (mN M2) o) (pj (mN M2) o) (dn (mN M2) (px (mN M2) o)) (f_X7_gapCells (mN M2) (px (mN M2) o + pj (mN M2) o)) (px (mN M2) o) (by omega) pk (by omega) (by omega) _ _ _ hP hQ hS (lv_sub hl [5, 6, 7, 8, 4, 3, 2, 1, 0] rfl)
  refine lv_iconst (v := 2) hx hb dL_moves_0 (by decide) ?_
  refine lv_iload_n hx hb dL_moves_1 rfl (lv_at hl 2 rfl) ?_
  refine lv_bipush (v := 7) hx hb dL_moves_2 (by decide) ?_
  refine irem_n (a := n) (b := 7) hx hb ⟨by omega, by decide, by decide⟩ dL_moves_4 ?_
  refine iadd_n (a := 2) (b := n % 7) hx hb dL_moves_5 ?_
  rw [show nI (2 + (n % 7)) = nI j from congrArg nI ej]
  refine lv_istore_n (lv' := [(3, .int (nI j)), (0, .ref a), (1, .ref b), (2, .int (nI n))]) hx hb dL_moves_6 rfl hl (by decide) rfl (fun ls hl => ?_)
  refine lv_aload_n hx hb dL_moves_7 rfl (lv_at hl 1 rfl) ?_
  refine lv_bipush (v := 18) hx hb dL_moves_8 (by decide) ?_
  refine lv_iload_n hx hb dL_moves_10 rfl (lv_at hl 0 rfl) ?_
  refine lv_iconst (v := 0) hx hb dL_moves_11 (by decide) ?_
  refine lv_iconst (v := 0) hx hb dL_moves_12 (by decide) ?_
  refine cl_o2 (rSP (A := blk a (a + 170)) (As := [.ref a, .int 18, .int (nI j), .int 0, .int 0]) (rest := []) ⟨hx, hb, hml, hown, hts⟩ (c_call_18 l G a X (nI j) 0 0 c0 X hst m0) (va_cwS 5 hts gL_moves_L_call rfl rfl rfl (by decide +kernel) ⟨(Nat.le_of_ble_eq_true rfl), (Nat.le_of_ble_eq_true rfl)⟩) hP hO (thr_at hTh hS (fun q h => Or.inl h)) hN rfl hl.1 (Nat.le_of_ble_eq_true rfl) dL_moves_13 ⟨(Nat.le_of_ble_eq_true rfl), (Nat.le_of_ble_eq_true rfl)⟩) hS (fun q h => Or.inl h) hQ (Or.inl hd) (fun H locs hP hQ hS => ?_)
  refine lv_istore (lv' := [(4, .int c0), (3, .int (nI j)), (0, .ref a), (1, .ref b), (2, .int (nI n))]) hx hb dL_moves_16 hl (by decide) rfl (fun ls hl => ?_)
  refine lv_aload_n hx hb dL_moves_18 rfl (lv_at hl 2 rfl) ?_
  refine lv_bipush (v := 18) hx hb dL_moves_19 (by decide) ?_
  refine lv_iload_n hx hb dL_moves_21 rfl (lv_at hl 1 rfl) ?_
  refine lv_iconst (v := 1) hx hb dL_moves_22 (by decide) ?_
  refine lv_iconst (v := 0) hx hb dL_moves_23 (by decide) ?_
  refine cl_o2 (rSP (A := blk a (a + 170)) (As := [.ref a, .int 18, .int (nI j), .int 1, .int 0]) (rest := []) ⟨hx, hb, hml, hown, hts⟩ (c_call_18 l G a X (nI j) 1 0 t0 X hst m1) (va_cwS 5 hts gL_moves_L_call rfl rfl rfl (by decide +kernel) ⟨(Nat.le_of_ble_eq_true rfl), (Nat.le_of_ble_eq_true rfl)⟩) hP hO (thr_at hTh hS (fun q h => Or.inl h)) hN rfl hl.1 (Nat.le_of_ble_eq_true rfl) dL_moves_24 ⟨(Nat.le_of_ble_eq_true rfl), (Nat.le_of_ble_eq_true rfl)⟩) hS (fun q h => Or.inl h) hQ (Or.inl hd) (fun H locs hP hQ hS => ?_)
  refine lv_istore (lv' := [(5, .int t0), (4, .int c0), (3, .int (nI j)), (0, .ref a), (1, .ref b), (2, .int (nI n))]) hx hb dL_moves_27 hl (by decide) rfl (fun ls hl => ?_)
  refine lv_iload hx hb dL_moves_29 (lv_at hl 1 rfl) ?_
  refine lv_iconst (v := -1) hx hb dL_moves_31 (by decide) ?_
  refine lv_icmp_ne (tgt := 39) hx hb dL_moves_32 (by decide) (fun c50 => ?_) (fun c50 => ?_)
  · obtain ⟨c, x, ec, et, hw, hmv⟩ := hy c50
    obtain ⟨hcm, hx80, hpx, hps, hcan, hne⟩ := mv_can RX.nw.2 hmv
    subst ec
    subst et
    obtain ⟨ep3, -, hp8⟩ := RX.nw.2.ri.X hcm hps
    obtain ⟨x1, x2, x3, x4, x5, x6⟩ := move_X RX CX hcm hx80 hcan
    obtain ⟨y1, y2, y3, y4, y5, y6⟩ := move_X RY CY hcm hx80 hcan
    obtain ⟨r1, r2⟩ := move_r RX hcm hx80 hcan
    have hdi : dist (px (mN M) c) x = (x - px (mN M) c) + (px (mN M) c - x) := rfl
    have hwl := wy_le (mN M) j
    refine lv_iconst (v := 0) hx hb dL_moves_39 (by decide) ?_
    refine lv_iload hx hb dL_moves_40 (lv_at hl 0 rfl) ?_
    refine lv_iconst (v := -1) hx hb dL_moves_42 (by decide) ?_
    refine lv_icmp_ne (tgt := 50) hx hb dL_moves_43 (by decide) (fun _ => ?_) (fun c51 => absurd c51 (nI_m1 (a := x) (by omega)))
    refine lv_iconst (v := 0) hx hb dL_moves_50 (by decide) ?_
    refine lv_icmp_ne (tgt := 58) hx hb dL_moves_51 (by decide) (fun c52 => absurd (by decide) c52) (fun _ => ?_)
    refine lv_iconst (v := 1) hx hb dL_moves_54 (by decide) ?_
    refine lv_goto (tgt := 59) hx hb dL_moves_55 (by decide) ?_
    refine lv_istore (lv' := [(6, .int 1), (5, .int (nI x)), (4, .int (nI c)), (3, .int (nI j)), (0, .ref a), (1, .ref b), (2, .int (nI n))]) hx hb dL_moves_59 hl (by decide) rfl (fun ls hl => ?_)
    refine lv_iload hx hb dL_moves_61 (lv_at hl 2 rfl) ?_
    refine lv_iconst (v := -1) hx hb dL_moves_63 (by decide) ?_
    refine lv_icmp_eq (tgt := 210) hx hb dL_moves_64 (by decide) (fun c53 => absurd c53 (nI_m1 (a := c) (by omega))) (fun _ => ?_)
    refine lv_iload hx hb dL_moves_67 (lv_at hl 0 rfl) ?_
    refine lv_if_eq (tgt := 210) hx hb dL_moves_69 (by decide) (fun c54 => absurd c54 (by decide)) (fun _ => ?_)
    refine lv_aload_n hx hb dL_moves_72 rfl (lv_at hl 4 rfl) ?_
    refine lv_iconst (v := 3) hx hb dL_moves_73 (by decide) ?_
    refine lv_iload hx hb dL_moves_74 (lv_at hl 2 rfl) ?_
    refine lv_iconst (v := 3) hx hb dL_moves_76 (by decide) ?_
    refine lv_iconst (v := 0) hx hb dL_moves_77 (by decide) ?_
    refine cl_o2 (rSP (A := blk a (a + 170)) (As := [.ref a, .int 3, .int (nI c), .int 3, .int 0]) (rest := []) ⟨hx, hb, hml, hown, hts⟩ (c_call_3 l G a X (nI c) 3 0 (nI (px (mN M) c)) X hst ((rd_car3 RX hcm).trans (by rw [ep3]))) (va_cwS 5 hts gL_moves_L_call rfl rfl rfl (by decide +kernel) ⟨(Nat.le_of_ble_eq_true rfl), (Nat.le_of_ble_eq_true rfl)⟩) hP hO (thr_at hTh hS (fun q h => Or.inl h)) hN rfl hl.1 (Nat.le_of_ble_eq_true rfl) dL_moves_78 ⟨(Nat.le_of_ble_eq_true rfl), (Nat.le_of_ble_eq_true rfl)⟩) hS (fun q h => Or.inl h) hQ (Or.inl hd) (fun H locs hP hQ hS => ?_)
    refine lv_istore (lv' := [(7, .int (nI (px (mN M) c))), (6, .int 1), (5, .int (nI x)), (4, .int (nI c)), (3, .int (nI j)), (0, .ref a), (1, .ref b), (2, .int (nI n))]) hx hb dL_moves_81 hl (by decide) rfl (fun ls hl => ?_)
    refine lv_iload hx hb dL_moves_83 (lv_at hl 2 rfl) ?_
    refine lv_iload hx hb dL_moves_85 (lv_at hl 0 rfl) ?_
    refine lv_icmp_ge (tgt := 98) hx hb dL_moves_87 (by decide) (fun c55 => ?_) (fun c55 => ?_)
    · have c55f : px (mN M) c ≤ x := (nI_leI (a := px (mN M) c) (b := x) (by omega) (by omega)).mp c55
      refine lv_iload hx hb dL_moves_98 (lv_at hl 2 rfl) ?_
      refine lv_iload hx hb dL_moves_100 (lv_at hl 0 rfl) ?_
      refine isub_n (a := x) (b := px (mN M) c) hx hb (by omega) dL_moves_102 ?_
      refine lv_istore (lv' := [(8, .int (nI (x - (px (mN M) c)))), (7, .int (nI (px (mN M) c))), (6, .int 1), (5, .int (nI x)), (4, .int (nI c)), (3, .int (nI j)), (0, .ref a), (1, .ref b), (2, .int (nI n))]) hx hb dL_moves_103 hl (by decide) rfl (fun ls hl => ?_)
      refine lv_aload_n hx hb dL_moves_105 rfl (lv_at hl 6 rfl) ?_
      refine lv_bipush (v := 14) hx hb dL_moves_106 (by decide) ?_
      refine lv_iload_n hx hb dL_moves_108 rfl (lv_at hl 5 rfl) ?_
      refine lv_iconst (v := 0) hx hb dL_moves_109 (by decide) ?_
      refine lv_iconst (v := 0) hx hb dL_moves_110 (by decide) ?_
      refine cl_o2 (rSP (A := blk a (a + 170)) (As := [.ref a, .int 14, .int (nI j), .int 0, .int 0]) (rest := []) ⟨hx, hb, hml, hown, hts⟩ (c_call_14 l G a X (nI j) 0 0 (nI (wy (mN M) j)) X hst (rd_why RX hj)) (va_cwS 5 hts gL_moves_L_call rfl rfl rfl (by decide +kernel) ⟨(Nat.le_of_ble_eq_true rfl), (Nat.le_of_ble_eq_true rfl)⟩) hP hO (thr_at hTh hS (fun q h => Or.inl h)) hN rfl hl.1 (Nat.le_of_ble_eq_true rfl) dL_moves_111 ⟨(Nat.le_of_ble_eq_true rfl), (Nat.le_of_ble_eq_true rfl)⟩) hS (fun q h => Or.inl h) hQ (Or.inl hd) (fun H locs hP hQ hS => ?_)
      refine lv_if_le (tgt := 207) hx hb dL_moves_114 (by decide) (fun c56 => absurd c56 (nI_ge (a := 0) (b := wy (mN M) j) (by omega) (by omega))) (fun _ => ?_)
      refine lv_iload hx hb dL_moves_117 (lv_at hl 0 rfl) ?_
      refine lv_if_le (tgt := 207) hx hb dL_moves_119 (by decide) (fun c57 => absurd c57 (nI_ge (a := 0) (b := x - (px (mN M) c)) (by omega) (by omega))) (fun _ => ?_)
      refine lv_aload_n hx hb dL_moves_122 rfl (lv_at hl 6 rfl) ?_
      refine lv_bipush (v := 10) hx hb dL_moves_123 (by decide) ?_
      refine lv_iload hx hb dL_moves_125 (lv_at hl 4 rfl) ?_
      refine lv_iload hx hb dL_moves_127 (lv_at hl 3 rfl) ?_
      refine lv_iconst (v := 0) hx hb dL_moves_129 (by decide) ?_
      refine cl_o2 (rSP (A := blk a (a + 170)) (As := [.ref a, .int 10, .int (nI c), .int (nI x), .int 0]) (rest := []) ⟨hx, hb, hml, hown, hts⟩ (c_call_10 l G a X (nI c) (nI x) 0 (nI (dist (px (mN M) c) x)) (vX X c x) hst (RX).ho (RX).hk x1) (va_cwS 5 hts gL_moves_L_call rfl rfl rfl (by decide +kernel) ⟨(Nat.le_of_ble_eq_true rfl), (Nat.le_of_ble_eq_true rfl)⟩) hP hO (thr_at hTh hS (fun q h => Or.inl h)) hN rfl hl.1 (Nat.le_of_ble_eq_true rfl) dL_moves_130 ⟨(Nat.le_of_ble_eq_true rfl), (Nat.le_of_ble_eq_true rfl)⟩) hS (fun q h => Or.inl h) hQ (Or.inl hd) (fun H locs hP hQ hS => ?_)
      refine lv_iload hx hb dL_moves_133 (lv_at hl 0 rfl) ?_
      refine lv_icmp_ne (tgt := 207) hx hb dL_moves_135 (by decide) (fun c58 => absurd (congrArg nI (show (dist (px (mN M) c) x : Nat) = x - (px (mN M) c) by omega)) c58) (fun _ => ?_)
      refine lv_aload_n hx hb dL_moves_138 rfl (lv_at hl 7 rfl) ?_
      refine lv_bipush (v := 10) hx hb dL_moves_139 (by decide) ?_
      refine lv_iload hx hb dL_moves_141 (lv_at hl 4 rfl) ?_
      refine lv_iload hx hb dL_moves_143 (lv_at hl 3 rfl) ?_
      refine lv_iconst (v := 0) hx hb dL_moves_145 (by decide) ?_
      refine cl_o2 (rSP (A := blk b (b + 170)) (As := [.ref b, .int 10, .int (nI c), .int (nI x), .int 0]) (rest := []) ⟨hx, hb, hml, hown, hts⟩ (c_call_10 l G b Y (nI c) (nI x) 0 (nI (dist (px (mN M) c) x)) (vX Y c x) hst (RY).ho (RY).hk y1) (va_cwS 5 hts gL_moves_L_call rfl rfl rfl (by decide +kernel) ⟨(Nat.le_of_ble_eq_true rfl), (Nat.le_of_ble_eq_true rfl)⟩) hQ hO (thr_at hTh hS (fun q h => Or.inr h)) hN rfl hl.1 (Nat.le_of_ble_eq_true rfl) dL_moves_146 ⟨(Nat.le_of_ble_eq_true rfl), (Nat.le_of_ble_eq_true rfl)⟩) hS (fun q h => Or.inr h) hP (Or.inr hd) (fun H locs hQ hP hS => ?_)
      refine lv_iload hx hb dL_moves_149 (lv_at hl 0 rfl) ?_
      refine lv_icmp_ne (tgt := 207) hx hb dL_moves_151 (by decide) (fun c59 => absurd (congrArg nI (show (dist (px (mN M) c) x : Nat) = x - (px (mN M) c) by omega)) c59) (fun _ => ?_)
      refine lv_aload_n hx hb dL_moves_154 rfl (lv_at hl 6 rfl) ?_
      refine lv_bipush (v := 14) hx hb dL_moves_155 (by decide) ?_
      refine lv_iload_n hx hb dL_moves_157 rfl (lv_at hl 5 rfl) ?_
      refine lv_iconst (v := 0) hx hb dL_moves_158 (by decide) ?_
      refine lv_iconst (v := 0) hx hb dL_moves_159 (by decide) ?_
      refine cl_o2 (rSP (A := blk a (a + 170)) (As := [.ref a, .int 14, .int (nI j), .int 0, .int 0]) (rest := []) ⟨hx, hb, hml, hown, hts⟩ (c_call_14 l G a (vX X c x) (nI j) 0 0 (nI (wy (mN (vM M c x)) j)) (vX X c x) hst (rd_why x2 hj)) (va_cwS 5 hts gL_moves_L_call rfl rfl rfl (by decide +kernel) ⟨(Nat.le_of_ble_eq_true rfl), (Nat.le_of_ble_eq_true rfl)⟩) hP hO (thr_at hTh hS (fun q h => Or.inl h)) hN rfl hl.1 (Nat.le_of_ble_eq_true rfl) dL_moves_160 ⟨(Nat.le_of_ble_eq_true rfl), (Nat.le_of_ble_eq_true rfl)⟩) hS (fun q h => Or.inl h) hQ (Or.inl hd) (fun H locs hP hQ hS => ?_)
      have hw2 : wy (mN (vM M c x)) j = 0 := by
        rw [r2]
        exact mv_gap RX.nw.2 hj hw hmv
      refine lv_if_ne (tgt := 207) hx hb dL_moves_163 (by decide) (fun c60 => absurd (congrArg nI (show (wy (mN (vM M c x)) j : Nat) = 0 by omega)) c60) (fun _ => ?_)
      refine lv_aload_n hx hb dL_moves_166 rfl (lv_at hl 6 rfl) ?_
      refine lv_iconst (v := 3) hx hb dL_moves_167 (by decide) ?_
      refine lv_iload hx hb dL_moves_168 (lv_at hl 4 rfl) ?_
      refine lv_iconst (v := 3) hx hb dL_moves_170 (by decide) ?_
      refine lv_iconst (v := 0) hx hb dL_moves_171 (by decide) ?_
      refine cl_o2 (rSP (A := blk a (a + 170)) (As := [.ref a, .int 3, .int (nI c), .int 3, .int 0]) (rest := []) ⟨hx, hb, hml, hown, hts⟩ (c_call_3 l G a (vX X c x) (nI c) 3 0 (nI x) (vX X c x) hst r1) (va_cwS 5 hts gL_moves_L_call rfl rfl rfl (by decide +kernel) ⟨(Nat.le_of_ble_eq_true rfl), (Nat.le_of_ble_eq_true rfl)⟩) hP hO (thr_at hTh hS (fun q h => Or.inl h)) hN rfl hl.1 (Nat.le_of_ble_eq_true rfl) dL_moves_172 ⟨(Nat.le_of_ble_eq_true rfl), (Nat.le_of_ble_eq_true rfl)⟩) hS (fun q h => Or.inl h) hQ (Or.inl hd) (fun H locs hP hQ hS => ?_)
      refine lv_iload hx hb dL_moves_175 (lv_at hl 3 rfl) ?_
      refine lv_icmp_ne (tgt := 207) hx hb dL_moves_177 (by decide) (fun c61 => absurd (congrArg nI (show (x : Nat) = x by omega)) c61) (fun _ => ?_)
      refine lv_aload_n hx hb dL_moves_180 rfl (lv_at hl 6 rfl) ?_
      refine lv_aload_n hx hb dL_moves_181 rfl (lv_at hl 7 rfl) ?_
      refine lv_iconst (v := 1) hx hb dL_moves_182 (by decide) ?_
      refine cl_ci (rSP (A := (fun q => blk a (a + 170) q ∨ blk b (b + 170) q)) (As := [.ref a, .ref b, .int 1]) (rest := []) ⟨hx, hb, hml, hown, hts⟩ (c_L_undoes l G a b hd (vX X c x) (vX Y c x) (vM M c x) 1 hst x2 y2 (by omega) (by rw [un2_1]; omega) (by rw [un2_1]; omega)) (va_cwS 3 hts gL_moves_L_undoes rfl rfl rfl (by decide +kernel) ⟨(Nat.le_of_ble_eq_true rfl), (Nat.le_of_ble_eq_true rfl)⟩) ⟨hP, hQ⟩ hO (thr_at hTh hS (fun q h => h)) hN rfl hl.1 (Nat.le_of_ble_eq_true rfl) dL_moves_183 ⟨(Nat.le_of_ble_eq_true rfl), (Nat.le_of_ble_eq_true rfl)⟩) hS (fun q h => h) (fun H locs hP9 hz hk hS => ?_)
      obtain ⟨hP, hQ⟩ := hP9
      rw [ut_1] at hP hQ
      refine lv_if_eq (tgt := 207) hx hb dL_moves_186 (by decide) (fun c62 => absurd c62 (by decide)) (fun _ => ?_)
      refine lv_aload_n hx hb dL_moves_189 rfl (lv_at hl 6 rfl) ?_
      refine lv_iconst (v := 3) hx hb dL_moves_190 (by decide) ?_
      refine lv_iload hx hb dL_moves_191 (lv_at hl 4 rfl) ?_
      refine lv_iconst (v := 3) hx hb dL_moves_193 (by decide) ?_
      refine lv_iconst (v := 0) hx hb dL_moves_194 (by decide) ?_
      refine cl_o2 (rSP (A := blk a (a + 170)) (As := [.ref a, .int 3, .int (nI c), .int 3, .int 0]) (rest := []) ⟨hx, hb, hml, hown, hts⟩ (c_call_3 l G a (un (vX X c x)) (nI c) 3 0 (nI (px (mN M) c)) (un (vX X c x)) hst ((rd_car3 x4 (by rw [gm_N RX x4 x6]; exact hcm)).trans (by rw [at_N RX x4 x6 hcm, ep3]))) (va_cwS 5 hts gL_moves_L_call rfl rfl rfl (by decide +kernel) ⟨(Nat.le_of_ble_eq_true rfl), (Nat.le_of_ble_eq_true rfl)⟩) hP hO (thr_at hTh hS (fun q h => Or.inl h)) hN rfl hl.1 (Nat.le_of_ble_eq_true rfl) dL_moves_195 ⟨(Nat.le_of_ble_eq_true rfl), (Nat.le_of_ble_eq_true rfl)⟩) hS (fun q h => Or.inl h) hQ (Or.inl hd) (fun H locs hP hQ hS => ?_)
      refine lv_iload hx hb dL_moves_198 (lv_at hl 1 rfl) ?_
      refine lv_icmp_ne (tgt := 207) hx hb dL_moves_200 (by decide) (fun c63 => absurd (congrArg nI (show (px (mN M) c : Nat) = px (mN M) c by omega)) c63) (fun _ => ?_)
      refine lv_iconst (v := 1) hx hb dL_moves_203 (by decide) ?_
      refine lv_goto (tgt := 208) hx hb dL_moves_204 (by decide) ?_
      refine lv_istore (lv' := [(6, .int 1), (8, .int (nI (x - (px (mN M) c)))), (7, .int (nI (px (mN M) c))), (5, .int (nI x)), (4, .int (nI c)), (3, .int (nI j)), (0, .ref a), (1, .ref b), (2, .int (nI n))]) hx hb dL_moves_208 hl (by decide) rfl (fun ls hl => ?_)
      refine W.widen (k := 14) (n := 84) (Nat.le_of_ble_eq_true rfl) (Nat.le_of_ble_eq_true rfl) ?_
      exact cut210 (un (vX X c x)) (un (vX Y c x)) ((h_X7_undo (vM M c x)).2) x4 y4 x5 y5 _ _ _ hP hQ hS (lv_sub hl [6, 7, 8, 0] rfl)
    · have c55f : ¬ (px (mN M) c) ≤ x := fun z => c55 ((nI_leI (a := px (mN M) c) (b := x) (by omega) (by omega)).mpr z)
      refine lv_iload hx hb dL_moves_90 (lv_at hl 0 rfl) ?_
      refine lv_iload hx hb dL_moves_92 (lv_at hl 2 rfl) ?_
      refine isub_n (a := px (mN M) c) (b := x) hx hb (by omega) dL_moves_94 ?_
      refine lv_goto (tgt := 103) hx hb dL_moves_95 (by decide) ?_
      refine lv_istore (lv' := [(8, .int (nI ((px (mN M) c) - x))), (7, .int (nI (px (mN M) c))), (6, .int 1), (5, .int (nI x)), (4, .int (nI c)), (3, .int (nI j)), (0, .ref a), (1, .ref b), (2, .int (nI n))]) hx hb dL_moves_103 hl (by decide) rfl (fun ls hl => ?_)
      refine lv_aload_n hx hb dL_moves_105 rfl (lv_at hl 6 rfl) ?_
      refine lv_bipush (v := 14) hx hb dL_moves_106 (by decide) ?_
      refine lv_iload_n hx hb dL_moves_108 rfl (lv_at hl 5 rfl) ?_
      refine lv_iconst (v := 0) hx hb dL_moves_109 (by decide) ?_
      refine lv_iconst (v := 0) hx hb dL_moves_110 (by decide) ?_
      refine cl_o2 (rSP (A := blk a (a + 170)) (As := [.ref a, .int 14, .int (nI j), .int 0, .int 0]) (rest := []) ⟨hx, hb, hml, hown, hts⟩ (c_call_14 l G a X (nI j) 0 0 (nI (wy (mN M) j)) X hst (rd_why RX hj)) (va_cwS 5 hts gL_moves_L_call rfl rfl rfl (by decide +kernel) ⟨(Nat.le_of_ble_eq_true rfl), (Nat.le_of_ble_eq_true rfl)⟩) hP hO (thr_at hTh hS (fun q h => Or.inl h)) hN rfl hl.1 (Nat.le_of_ble_eq_true rfl) dL_moves_111 ⟨(Nat.le_of_ble_eq_true rfl), (Nat.le_of_ble_eq_true rfl)⟩) hS (fun q h => Or.inl h) hQ (Or.inl hd) (fun H locs hP hQ hS => ?_)
      refine lv_if_le (tgt := 207) hx hb dL_moves_114 (by decide) (fun c64 => absurd c64 (nI_ge (a := 0) (b := wy (mN M) j) (by omega) (by omega))) (fun _ => ?_)
      refine lv_iload hx hb dL_moves_117 (lv_at hl 0 rfl) ?_
      refine lv_if_le (tgt := 207) hx hb dL_moves_119 (by decide) (fun c65 => absurd c65 (nI_ge (a := 0) (b := (px (mN M) c) - x) (by omega) (by omega))) (fun _ => ?_)
      refine lv_aload_n hx hb dL_moves_122 rfl (lv_at hl 6 rfl) ?_
      refine lv_bipush (v := 10) hx hb dL_moves_123 (by decide) ?_
      refine lv_iload hx hb dL_moves_125 (lv_at hl 4 rfl) ?_
      refine lv_iload hx hb dL_moves_127 (lv_at hl 3 rfl) ?_
      refine lv_iconst (v := 0) hx hb dL_moves_129 (by decide) ?_
      refine cl_o2 (rSP (A := blk a (a + 170)) (As := [.ref a, .int 10, .int (nI c), .int (nI x), .int 0]) (rest := []) ⟨hx, hb, hml, hown, hts⟩ (c_call_10 l G a X (nI c) (nI x) 0 (nI (dist (px (mN M) c) x)) (vX X c x) hst (RX).ho (RX).hk x1) (va_cwS 5 hts gL_moves_L_call rfl rfl rfl (by decide +kernel) ⟨(Nat.le_of_ble_eq_true rfl), (Nat.le_of_ble_eq_true rfl)⟩) hP hO (thr_at hTh hS (fun q h => Or.inl h)) hN rfl hl.1 (Nat.le_of_ble_eq_true rfl) dL_moves_130 ⟨(Nat.le_of_ble_eq_true rfl), (Nat.le_of_ble_eq_true rfl)⟩) hS (fun q h => Or.inl h) hQ (Or.inl hd) (fun H locs hP hQ hS => ?_)
      refine lv_iload hx hb dL_moves_133 (lv_at hl 0 rfl) ?_
      refine lv_icmp_ne (tgt := 207) hx hb dL_moves_135 (by decide) (fun c66 => absurd (congrArg nI (show (dist (px (mN M) c) x : Nat) = (px (mN M) c) - x by omega)) c66) (fun _ => ?_)
      refine lv_aload_n hx hb dL_moves_138 rfl (lv_at hl 7 rfl) ?_
      refine lv_bipush (v := 10) hx hb dL_moves_139 (by decide) ?_
      refine lv_iload hx hb dL_moves_141 (lv_at hl 4 rfl) ?_
      refine lv_iload hx hb dL_moves_143 (lv_at hl 3 rfl) ?_
      refine lv_iconst (v := 0) hx hb dL_moves_145 (by decide) ?_
      refine cl_o2 (rSP (A := blk b (b + 170)) (As := [.ref b, .int 10, .int (nI c), .int (nI x), .int 0]) (rest := []) ⟨hx, hb, hml, hown, hts⟩ (c_call_10 l G b Y (nI c) (nI x) 0 (nI (dist (px (mN M) c) x)) (vX Y c x) hst (RY).ho (RY).hk y1) (va_cwS 5 hts gL_moves_L_call rfl rfl rfl (by decide +kernel) ⟨(Nat.le_of_ble_eq_true rfl), (Nat.le_of_ble_eq_true rfl)⟩) hQ hO (thr_at hTh hS (fun q h => Or.inr h)) hN rfl hl.1 (Nat.le_of_ble_eq_true rfl) dL_moves_146 ⟨(Nat.le_of_ble_eq_true rfl), (Nat.le_of_ble_eq_true rfl)⟩) hS (fun q h => Or.inr h) hP (Or.inr hd) (fun H locs hQ hP hS => ?_)
      refine lv_iload hx hb dL_moves_149 (lv_at hl 0 rfl) ?_
      refine lv_icmp_ne (tgt := 207) hx hb dL_moves_151 (by decide) (fun c67 => absurd (congrArg nI (show (dist (px (mN M) c) x : Nat) = (px (mN M) c) - x by omega)) c67) (fun _ => ?_)
      refine lv_aload_n hx hb dL_moves_154 rfl (lv_at hl 6 rfl) ?_
      refine lv_bipush (v := 14) hx hb dL_moves_155 (by decide) ?_
      refine lv_iload_n hx hb dL_moves_157 rfl (lv_at hl 5 rfl) ?_
      refine lv_iconst (v := 0) hx hb dL_moves_158 (by decide) ?_
      refine lv_iconst (v := 0) hx hb dL_moves_159 (by decide) ?_
      refine cl_o2 (rSP (A := blk a (a + 170)) (As := [.ref a, .int 14, .int (nI j), .int 0, .int 0]) (rest := []) ⟨hx, hb, hml, hown, hts⟩ (c_call_14 l G a (vX X c x) (nI j) 0 0 (nI (wy (mN (vM M c x)) j)) (vX X c x) hst (rd_why x2 hj)) (va_cwS 5 hts gL_moves_L_call rfl rfl rfl (by decide +kernel) ⟨(Nat.le_of_ble_eq_true rfl), (Nat.le_of_ble_eq_true rfl)⟩) hP hO (thr_at hTh hS (fun q h => Or.inl h)) hN rfl hl.1 (Nat.le_of_ble_eq_true rfl) dL_moves_160 ⟨(Nat.le_of_ble_eq_true rfl), (Nat.le_of_ble_eq_true rfl)⟩) hS (fun q h => Or.inl h) hQ (Or.inl hd) (fun H locs hP hQ hS => ?_)
      have hw2 : wy (mN (vM M c x)) j = 0 := by
        rw [r2]
        exact mv_gap RX.nw.2 hj hw hmv
      refine lv_if_ne (tgt := 207) hx hb dL_moves_163 (by decide) (fun c68 => absurd (congrArg nI (show (wy (mN (vM M c x)) j : Nat) = 0 by omega)) c68) (fun _ => ?_)
      refine lv_aload_n hx hb dL_moves_166 rfl (lv_at hl 6 rfl) ?_
      refine lv_iconst (v := 3) hx hb dL_moves_167 (by decide) ?_
      refine lv_iload hx hb dL_moves_168 (lv_at hl 4 rfl) ?_
      refine lv_iconst (v := 3) hx hb dL_moves_170 (by decide) ?_
      refine lv_iconst (v := 0) hx hb dL_moves_171 (by decide) ?_
      refine cl_o2 (rSP (A := blk a (a + 170)) (As := [.ref a, .int 3, .int (nI c), .int 3, .int 0]) (rest := []) ⟨hx, hb, hml, hown, hts⟩ (c_call_3 l G a (vX X c x) (nI c) 3 0 (nI x) (vX X c x) hst r1) (va_cwS 5 hts gL_moves_L_call rfl rfl rfl (by decide +kernel) ⟨(Nat.le_of_ble_eq_true rfl), (Nat.le_of_ble_eq_true rfl)⟩) hP hO (thr_at hTh hS (fun q h => Or.inl h)) hN rfl hl.1 (Nat.le_of_ble_eq_true rfl) dL_moves_172 ⟨(Nat.le_of_ble_eq_true rfl), (Nat.le_of_ble_eq_true rfl)⟩) hS (fun q h => Or.inl h) hQ (Or.inl hd) (fun H locs hP hQ hS => ?_)
      refine lv_iload hx hb dL_moves_175 (lv_at hl 3 rfl) ?_
      refine lv_icmp_ne (tgt := 207) hx hb dL_moves_177 (by decide) (fun c69 => absurd (congrArg nI (show (x : Nat) = x by omega)) c69) (fun _ => ?_)
      refine lv_aload_n hx hb dL_moves_180 rfl (lv_at hl 6 rfl) ?_
      refine lv_aload_n hx hb dL_moves_181 rfl (lv_at hl 7 rfl) ?_
      refine lv_iconst (v := 1) hx hb dL_moves_182 (by decide) ?_
      refine cl_ci (rSP (A := (fun q => blk a (a + 170) q ∨ blk b (b + 170) q)) (As := [.ref a, .ref b, .int 1]) (rest := []) ⟨hx, hb, hml, hown, hts⟩ (c_L_undoes l G a b hd (vX X c x) (vX Y c x) (vM M c x) 1 hst x2 y2 (by omega) (by rw [un2_1]; omega) (by rw [un2_1]; omega)) (va_cwS 3 hts gL_moves_L_undoes rfl rfl rfl (by decide +kernel) ⟨(Nat.le_of_ble_eq_true rfl), (Nat.le_of_ble_eq_true rfl)⟩) ⟨hP, hQ⟩ hO (thr_at hTh hS (fun q h => h)) hN rfl hl.1 (Nat.le_of_ble_eq_true rfl) dL_moves_183 ⟨(Nat.le_of_ble_eq_true rfl), (Nat.le_of_ble_eq_true rfl)⟩) hS (fun q h => h) (fun H locs hP9 hz hk hS => ?_)
      obtain ⟨hP, hQ⟩ := hP9
      rw [ut_1] at hP hQ
      refine lv_if_eq (tgt := 207) hx hb dL_moves_186 (by decide) (fun c70 => absurd c70 (by decide)) (fun _ => ?_)
      refine lv_aload_n hx hb dL_moves_189 rfl (lv_at hl 6 rfl) ?_
      refine lv_iconst (v := 3) hx hb dL_moves_190 (by decide) ?_
      refine lv_iload hx hb dL_moves_191 (lv_at hl 4 rfl) ?_
      refine lv_iconst (v := 3) hx hb dL_moves_193 (by decide) ?_
      refine lv_iconst (v := 0) hx hb dL_moves_194 (by decide) ?_
      refine cl_o2 (rSP (A := blk a (a + 170)) (As := [.ref a, .int 3, .int (nI c), .int 3, .int 0]) (rest := []) ⟨hx, hb, hml, hown, hts⟩ (c_call_3 l G a (un (vX X c x)) (nI c) 3 0 (nI (px (mN M) c)) (un (vX X c x)) hst ((rd_car3 x4 (by rw [gm_N RX x4 x6]; exact hcm)).trans (by rw [at_N RX x4 x6 hcm, ep3]))) (va_cwS 5 hts gL_moves_L_call rfl rfl rfl (by decide +kernel) ⟨(Nat.le_of_ble_eq_true rfl), (Nat.le_of_ble_eq_true rfl)⟩) hP hO (thr_at hTh hS (fun q h => Or.inl h)) hN rfl hl.1 (Nat.le_of_ble_eq_true rfl) dL_moves_195 ⟨(Nat.le_of_ble_eq_true rfl), (Nat.le_of_ble_eq_true rfl)⟩) hS (fun q h => Or.inl h) hQ (Or.inl hd) (fun H locs hP hQ hS => ?_)
      refine lv_iload hx hb dL_moves_198 (lv_at hl 1 rfl) ?_
      refine lv_icmp_ne (tgt := 207) hx hb dL_moves_200 (by decide) (fun c71 => absurd (congrArg nI (show (px (mN M) c : Nat) = px (mN M) c by omega)) c71) (fun _ => ?_)
      refine lv_iconst (v := 1) hx hb dL_moves_203 (by decide) ?_
      refine lv_goto (tgt := 208) hx hb dL_moves_204 (by decide) ?_
      refine lv_istore (lv' := [(6, .int 1), (8, .int (nI ((px (mN M) c) - x))), (7, .int (nI (px (mN M) c))), (5, .int (nI x)), (4, .int (nI c)), (3, .int (nI j)), (0, .ref a), (1, .ref b), (2, .int (nI n))]) hx hb dL_moves_208 hl (by decide) rfl (fun ls hl => ?_)
      refine W.widen (k := 14) (n := 84) (Nat.le_of_ble_eq_true rfl) (Nat.le_of_ble_eq_true rfl) ?_
      exact cut210 (un (vX X c x)) (un (vX Y c x)) ((h_X7_undo (vM M c x)).2) x4 y4 x5 y5 _ _ _ hP hQ hS (lv_sub hl [6, 7, 8, 0] rfl)
  · have ht0 := hz c50
    refine lv_iconst (v := 1) hx hb dL_moves_35 (by decide) ?_
    refine lv_goto (tgt := 40) hx hb dL_moves_36 (by decide) ?_
    refine lv_iload hx hb dL_moves_40 (lv_at hl 0 rfl) ?_
    refine lv_iconst (v := -1) hx hb dL_moves_42 (by decide) ?_
    refine lv_icmp_ne (tgt := 50) hx hb dL_moves_43 (by decide) (fun c72 => absurd ht0 c72) (fun _ => ?_)
    refine lv_iconst (v := 1) hx hb dL_moves_46 (by decide) ?_
    refine lv_goto (tgt := 51) hx hb dL_moves_47 (by decide) ?_
    refine lv_icmp_ne (tgt := 58) hx hb dL_moves_51 (by decide) (fun c73 => absurd (by decide) c73) (fun _ => ?_)
    refine lv_iconst (v := 1) hx hb dL_moves_54 (by decide) ?_
    refine lv_goto (tgt := 59) hx hb dL_moves_55 (by decide) ?_
    refine lv_istore (lv' := [(6, .int 1), (5, .int t0), (4, .int c0), (3, .int (nI j)), (0, .ref a), (1, .ref b), (2, .int (nI n))]) hx hb dL_moves_59 hl (by decide) rfl (fun ls hl => ?_)
    refine lv_iload hx hb dL_moves_61 (lv_at hl 2 rfl) ?_
    refine lv_iconst (v := -1) hx hb dL_moves_63 (by decide) ?_
    refine lv_icmp_eq (tgt := 210) hx hb dL_moves_64 (by decide) (fun _ => ?_) (fun c74 => absurd c50 c74)
    refine W.widen (k := 14) (n := 84) (Nat.le_of_ble_eq_true rfl) (Nat.le_of_ble_eq_true rfl) ?_
    exact cut210 X Y M RX RY CX CY _ _ _ hP hQ hS (lv_sub hl [4, 5, 6, 0] rfl)
