set_option maxHeartbeats 4000000 in
set_option maxRecDepth 100000 in
theorem c_X6_init (l : Launch) (G : GG) (b : Nat) : Met l yX6_init wsX6_init ({ frames := 4, cells := 169, slots := 7597, locals := 84 }) (PcA G [.ref b] (fun H => H.size = b + 1 ∧ va_P G.1 vwCl [(b, .inr (4, [.null, .null, .null, .null, .null]))] H)) (QM none (fun H => H.size = b + 170 ∧ va_P G.1 vwCl (((((([(b, .inr (4, [.ref (b + 1), .ref (b + 3), .ref (b + 12), .ref (b + 21), .ref (b + 149)]))] ++ txW G (b + 1) txZ) ++ stW G (b + 3) st1) ++ stW G (b + 12) st1) ++ hsW G (b + 21) (fun _ => st1, 0, 0)) ++ svW G (b + 149) (fun _ => st1, zR))) H) (frm b)) 169 7597 (frm b) := by
  refine metC (cc := cX6_init) (maxL := 1) (by decide) rfl rfl ?_
  intro p e s m below meth cd hx hb hr hml hown hts hlocks hnm hPz hO hAO
  obtain ⟨hs, hP⟩ := hPz
  have hin : ∀ w ∈ u_ws RX6 TX6 5, w ∈ wsX6_init := by decide +kernel
  have hS : va_S (frm b) s.heap s.heap [] := va_S.rf
  have hl := lv_entry ([.ref b]) (n := 1) (Nat.le_of_ble_eq_true rfl)
  rw [lg_entry_eq]
  generalize (lg_sl ([.ref b]) ++ List.replicate (1 - (lg_sl ([.ref b])).length) Slot.unset).toArray = ls at hl ⊢
  have hl : lv_has ls 1 [(0, .ref b)] := hl
  refine lv_aload_n hx hb dX6_init_0 rfl (lv_at hl 0 rfl) ?_
  refine W.objInit hx hb hown (hts (.methodLink RX6 1 objectInit) (by decide +kernel)) (hts (.instanceMethod objectInit) (by decide +kernel)) (hts _ (List.mem_of_getElem? (i := 3) rfl)) rfl (by rw [hml]; exact hl.1) rfl dX6_init_1 (Nat.le_of_ble_eq_true rfl) (Nat.le_of_ble_eq_true rfl) ?_
  refine W.eq (g2 := F0 m 4 ls []) rfl ?_
  refine lv_aload_n hx hb dX6_init_4 rfl (lv_at hl 0 rfl) ?_
  have hz : s.heap.size = (b + 1) := hs
  refine new_n (ci := 3) (fs := [.null, .int 0]) (C := RX5) (T := TX5) (N := 2) hx hb hts (by decide +kernel) tyX5 tyX5_ok hown (hts (.classLink RX6 7 RX5) (by decide +kernel)) (hts (.instantiable RX5 2) (by decide +kernel)) (hts (.initialized RX5) (by decide +kernel)) hO.1 hP hS rfl (fun j hj => by rcases (show j = 0 ∨ j = 1 by omega) with rfl | rfl <;> rfl) (Nat.le_of_ble_eq_true rfl) (Nat.le_of_ble_eq_true rfl) hz dX6_init_5 (fun H hP hz hS => ?_)
  have hP : va_P G.1 vwCl ([(b, .inr (4, [.null, .null, .null, .null, .null]))] ++ [((b + 1), .inr (3, [.null, .int 0]))]) H := hP
  refine lv_dup hx hb dX6_init_8 rfl ?_
  refine cl_cv (rIN (As := []) (rest := [.ref (b + 1), .ref b]) ⟨hx, hb, hml, hown, hts⟩ (c_X5_init l G (b + 1)) ⟨va_cnB 0 hts gX6_init_X5_init_n9 rfl rfl rfl (hO.2 _ (List.mem_of_getElem? (i := 0) rfl)) (hts (.initialized RX5) (by decide +kernel)) (by decide +kernel) ⟨Nat.le_of_ble_eq_true rfl, Nat.le_of_ble_eq_true rfl⟩, rfl, hts (.instanceMethod yX5_init) (by decide +kernel)⟩ ⟨hz, (P_app.mp hP).2⟩ hO hAO rfl hl.1 (Nat.le_of_ble_eq_true rfl) dX6_init_9 ⟨Nat.le_of_ble_eq_true rfl, Nat.le_of_ble_eq_true rfl⟩) hS (fun q h => Nat.le_trans (by omega) h) (fun H locs hP1 _ hk hS => ?_)
  have hP := P_out (a := b) (P_app.mp hP).1 Adr.one hk (fun q h1 h2 h3 => absurd h3 (Nat.not_le.mpr h2))
  have hz := hP1.1
  have hP := P_app.mpr ⟨hP, hP1.2⟩
  have hP : va_P G.1 vwCl ([(b, .inr (4, [.null, .null, .null, .null, .null]))] ++ txW G (b + 1) txZ) H := hP
  refine va_putF (D := G.1) (ci := 4) (v := .ref (b + 1)) (ty := .object "CurbCars$StreetText") (C := RX6) (T := TX6) (N := 5) hx hb hts hin tyX6 tyX6_ok nmX6 hown hO.1 hP (Adr.D (Adr.app Adr.one (tx_adr G (b + 1) txZ) rfl) (fun q h _ => h)) hS 0 rfl rfl 0 (by decide) (hts (.fieldLink RX6 10 "CurbCars" "text" "LCurbCars$StreetText;") (by decide +kernel)) (fun _ h9 => h9) rfl hnm rfl (by decide +kernel) rfl rfl (Nat.le_of_ble_eq_true rfl) dX6_init_12 (fun H locs hP hD hS => ?_)
  have hP : va_P G.1 vwCl ([(b, .inr (4, [.ref (b + 1), .null, .null, .null, .null]))] ++ txW G (b + 1) txZ) H := hP
  refine lv_aload_n hx hb dX6_init_15 rfl (lv_at hl 0 rfl) ?_
  refine W_size fun hz0 => ?_
  have hz : H.size = (b + 3) := size_eq hs hz0 (hP 2 _ rfl).lt rfl
  refine new_n (ci := 2) (fs := [.null, .null, .null, .null, .null, .null, .null, .null, .int 0, .int 0, .long 0, .int 0, .int 0, .int 0]) (C := RX4) (T := TX4) (N := 14) hx hb hts (by decide +kernel) tyX4 tyX4_ok hown (hts (.classLink RX6 16 RX4) (by decide +kernel)) (hts (.instantiable RX4 14) (by decide +kernel)) (hts (.initialized RX4) (by decide +kernel)) hO.1 hP hS rfl (fun j hj => by rcases (show j = 0 ∨ j = 1 ∨ j = 2 ∨ j = 3 ∨ j = 4 ∨ j = 5 ∨ j = 6 ∨ j = 7 ∨ j = 8 ∨ j = 9 ∨ j = 10 ∨ j = 11 ∨ j = 12 ∨ j = 13 by omega) with rfl | rfl | rfl | rfl | rfl | rfl | rfl | rfl | rfl | rfl | rfl | rfl | rfl | rfl <;> rfl) (Nat.le_of_ble_eq_true rfl) (Nat.le_of_ble_eq_true rfl) hz dX6_init_16 (fun H hP hz hS => ?_)
  have hP : va_P G.1 vwCl (([(b, .inr (4, [.ref (b + 1), .null, .null, .null, .null]))] ++ txW G (b + 1) txZ) ++ [((b + 3), .inr (2, [.null, .null, .null, .null, .null, .null, .null, .null, .int 0, .int 0, .long 0, .int 0, .int 0, .int 0]))]) H := hP
  refine lv_dup hx hb dX6_init_19 rfl ?_
  refine cl_cv (rIN (As := []) (rest := [.ref (b + 3), .ref b]) ⟨hx, hb, hml, hown, hts⟩ (c_X4_init l G (b + 3)) ⟨va_cnB 0 hts gX6_init_X4_init_n18 rfl rfl rfl (hO.2 _ (List.mem_of_getElem? (i := 1) rfl)) (hts (.initialized RX4) (by decide +kernel)) (by decide +kernel) ⟨Nat.le_of_ble_eq_true rfl, Nat.le_of_ble_eq_true rfl⟩, rfl, hts (.instanceMethod yX4_init) (by decide +kernel)⟩ ⟨hz, (P_app.mp hP).2⟩ hO hAO rfl hl.1 (Nat.le_of_ble_eq_true rfl) dX6_init_20 ⟨Nat.le_of_ble_eq_true rfl, Nat.le_of_ble_eq_true rfl⟩) hS (fun q h => Nat.le_trans (by omega) h) (fun H locs hP1 _ hk hS => ?_)
  have hP := P_out (a := b) (P_app.mp hP).1 (Adr.app Adr.one (tx_adr G (b + 1) txZ) rfl) hk (fun q h1 h2 h3 => absurd h3 (Nat.not_le.mpr h2))
  have hz := hP1.1
  have hP := P_app.mpr ⟨hP, hP1.2⟩
  have hP : va_P G.1 vwCl (([(b, .inr (4, [.ref (b + 1), .null, .null, .null, .null]))] ++ txW G (b + 1) txZ) ++ stW G (b + 3) st1) H := hP
  refine va_putF (D := G.1) (ci := 4) (v := .ref (b + 3)) (ty := .object "CurbCars$Street") (C := RX6) (T := TX6) (N := 5) hx hb hts hin tyX6 tyX6_ok nmX6 hown hO.1 hP (Adr.D (Adr.app (Adr.app Adr.one (tx_adr G (b + 1) txZ) rfl) (st_adr G (b + 3) st1) rfl) (fun q h _ => h)) hS 0 rfl rfl 1 (by decide) (hts (.fieldLink RX6 19 "CurbCars" "now" "LCurbCars$Street;") (by decide +kernel)) (fun _ h9 => h9) rfl hnm rfl (by decide +kernel) rfl rfl (Nat.le_of_ble_eq_true rfl) dX6_init_23 (fun H locs hP hD hS => ?_)
  have hP : va_P G.1 vwCl (([(b, .inr (4, [.ref (b + 1), .ref (b + 3), .null, .null, .null]))] ++ txW G (b + 1) txZ) ++ stW G (b + 3) st1) H := hP
  refine lv_aload_n hx hb dX6_init_26 rfl (lv_at hl 0 rfl) ?_
  refine W_size fun hz0 => ?_
  have hz : H.size = (b + 12) := size_eq hs hz0 (hP 11 _ rfl).lt rfl
  refine new_n (ci := 2) (fs := [.null, .null, .null, .null, .null, .null, .null, .null, .int 0, .int 0, .long 0, .int 0, .int 0, .int 0]) (C := RX4) (T := TX4) (N := 14) hx hb hts (by decide +kernel) tyX4 tyX4_ok hown (hts (.classLink RX6 16 RX4) (by decide +kernel)) (hts (.instantiable RX4 14) (by decide +kernel)) (hts (.initialized RX4) (by decide +kernel)) hO.1 hP hS rfl (fun j hj => by rcases (show j = 0 ∨ j = 1 ∨ j = 2 ∨ j = 3 ∨ j = 4 ∨ j = 5 ∨ j = 6 ∨ j = 7 ∨ j = 8 ∨ j = 9 ∨ j = 10 ∨ j = 11 ∨ j = 12 ∨ j = 13 by omega) with rfl | rfl | rfl | rfl | rfl | rfl | rfl | rfl | rfl | rfl | rfl | rfl | rfl | rfl <;> rfl) (Nat.le_of_ble_eq_true rfl) (Nat.le_of_ble_eq_true rfl) hz dX6_init_27 (fun H hP hz hS => ?_)
  have hP : va_P G.1 vwCl ((([(b, .inr (4, [.ref (b + 1), .ref (b + 3), .null, .null, .null]))] ++ txW G (b + 1) txZ) ++ stW G (b + 3) st1) ++ [((b + 12), .inr (2, [.null, .null, .null, .null, .null, .null, .null, .null, .int 0, .int 0, .long 0, .int 0, .int 0, .int 0]))]) H := hP
  refine lv_dup hx hb dX6_init_30 rfl ?_
  refine cl_cv (rIN (As := []) (rest := [.ref (b + 12), .ref b]) ⟨hx, hb, hml, hown, hts⟩ (c_X4_init l G (b + 12)) ⟨va_cnB 0 hts gX6_init_X4_init_n18 rfl rfl rfl (hO.2 _ (List.mem_of_getElem? (i := 1) rfl)) (hts (.initialized RX4) (by decide +kernel)) (by decide +kernel) ⟨Nat.le_of_ble_eq_true rfl, Nat.le_of_ble_eq_true rfl⟩, rfl, hts (.instanceMethod yX4_init) (by decide +kernel)⟩ ⟨hz, (P_app.mp hP).2⟩ hO hAO rfl hl.1 (Nat.le_of_ble_eq_true rfl) dX6_init_31 ⟨Nat.le_of_ble_eq_true rfl, Nat.le_of_ble_eq_true rfl⟩) hS (fun q h => Nat.le_trans (by omega) h) (fun H locs hP1 _ hk hS => ?_)
  have hP := P_out (a := b) (P_app.mp hP).1 (Adr.app (Adr.app Adr.one (tx_adr G (b + 1) txZ) rfl) (st_adr G (b + 3) st1) rfl) hk (fun q h1 h2 h3 => absurd h3 (Nat.not_le.mpr h2))
  have hz := hP1.1
  have hP := P_app.mpr ⟨hP, hP1.2⟩
  have hP : va_P G.1 vwCl ((([(b, .inr (4, [.ref (b + 1), .ref (b + 3), .null, .null, .null]))] ++ txW G (b + 1) txZ) ++ stW G (b + 3) st1) ++ stW G (b + 12) st1) H := hP
  refine va_putF (D := G.1) (ci := 4) (v := .ref (b + 12)) (ty := .object "CurbCars$Street") (C := RX6) (T := TX6) (N := 5) hx hb hts hin tyX6 tyX6_ok nmX6 hown hO.1 hP (Adr.D (Adr.app (Adr.app (Adr.app Adr.one (tx_adr G (b + 1) txZ) rfl) (st_adr G (b + 3) st1) rfl) (st_adr G (b + 12) st1) rfl) (fun q h _ => h)) hS 0 rfl rfl 2 (by decide) (hts (.fieldLink RX6 23 "CurbCars" "trial" "LCurbCars$Street;") (by decide +kernel)) (fun _ h9 => h9) rfl hnm rfl (by decide +kernel) rfl rfl (Nat.le_of_ble_eq_true rfl) dX6_init_34 (fun H locs hP hD hS => ?_)
  have hP : va_P G.1 vwCl ((([(b, .inr (4, [.ref (b + 1), .ref (b + 3), .ref (b + 12), .null, .null]))] ++ txW G (b + 1) txZ) ++ stW G (b + 3) st1) ++ stW G (b + 12) st1) H := hP
  refine lv_aload_n hx hb dX6_init_37 rfl (lv_at hl 0 rfl) ?_
  refine W_size fun hz0 => ?_
  have hz : H.size = (b + 21) := size_eq hs hz0 (hP 20 _ rfl).lt rfl
  refine new_n (ci := 0) (fs := [.null, .int 0, .int 0]) (C := RX0) (T := TX0) (N := 3) hx hb hts (by decide +kernel) tyX0 tyX0_ok hown (hts (.classLink RX6 26 RX0) (by decide +kernel)) (hts (.instantiable RX0 3) (by decide +kernel)) (hts (.initialized RX0) (by decide +kernel)) hO.1 hP hS rfl (fun j hj => by rcases (show j = 0 ∨ j = 1 ∨ j = 2 by omega) with rfl | rfl | rfl <;> rfl) (Nat.le_of_ble_eq_true rfl) (Nat.le_of_ble_eq_true rfl) hz dX6_init_38 (fun H hP hz hS => ?_)
  have hP : va_P G.1 vwCl (((([(b, .inr (4, [.ref (b + 1), .ref (b + 3), .ref (b + 12), .null, .null]))] ++ txW G (b + 1) txZ) ++ stW G (b + 3) st1) ++ stW G (b + 12) st1) ++ [((b + 21), .inr (0, [.null, .int 0, .int 0]))]) H := hP
  refine lv_dup hx hb dX6_init_41 rfl ?_
  refine cl_cv (rIN (As := []) (rest := [.ref (b + 21), .ref b]) ⟨hx, hb, hml, hown, hts⟩ (c_X0_init l G (b + 21)) ⟨va_cnB 0 hts gX6_init_X0_init_n28 rfl rfl rfl (hO.2 _ (List.mem_of_getElem? (i := 15) rfl)) (hts (.initialized RX0) (by decide +kernel)) (by decide +kernel) ⟨Nat.le_of_ble_eq_true rfl, Nat.le_of_ble_eq_true rfl⟩, rfl, hts (.instanceMethod yX0_init) (by decide +kernel)⟩ ⟨hz, (P_app.mp hP).2⟩ hO hAO rfl hl.1 (Nat.le_of_ble_eq_true rfl) dX6_init_42 ⟨Nat.le_of_ble_eq_true rfl, Nat.le_of_ble_eq_true rfl⟩) hS (fun q h => Nat.le_trans (by omega) h) (fun H locs hP1 _ hk hS => ?_)
  have hP := P_out (a := b) (P_app.mp hP).1 (Adr.app (Adr.app (Adr.app Adr.one (tx_adr G (b + 1) txZ) rfl) (st_adr G (b + 3) st1) rfl) (st_adr G (b + 12) st1) rfl) hk (fun q h1 h2 h3 => absurd h3 (Nat.not_le.mpr h2))
  have hz := hP1.1
  have hP := P_app.mpr ⟨hP, hP1.2⟩
  have hP : va_P G.1 vwCl (((([(b, .inr (4, [.ref (b + 1), .ref (b + 3), .ref (b + 12), .null, .null]))] ++ txW G (b + 1) txZ) ++ stW G (b + 3) st1) ++ stW G (b + 12) st1) ++ hsW G (b + 21) (fun _ => st1, 0, 0)) H := hP
  refine va_putF (D := G.1) (ci := 4) (v := .ref (b + 21)) (ty := .object "CurbCars$History") (C := RX6) (T := TX6) (N := 5) hx hb hts hin tyX6 tyX6_ok nmX6 hown hO.1 hP (Adr.D (Adr.app (Adr.app (Adr.app (Adr.app Adr.one (tx_adr G (b + 1) txZ) rfl) (st_adr G (b + 3) st1) rfl) (st_adr G (b + 12) st1) rfl) (hs_adr G (b + 21) _) rfl) (fun q h _ => h)) hS 0 rfl rfl 3 (by decide) (hts (.fieldLink RX6 29 "CurbCars" "history" "LCurbCars$History;") (by decide +kernel)) (fun _ h9 => h9) rfl hnm rfl (by decide +kernel) rfl rfl (Nat.le_of_ble_eq_true rfl) dX6_init_45 (fun H locs hP hD hS => ?_)
  have hP : va_P G.1 vwCl (((([(b, .inr (4, [.ref (b + 1), .ref (b + 3), .ref (b + 12), .ref (b + 21), .null]))] ++ txW G (b + 1) txZ) ++ stW G (b + 3) st1) ++ stW G (b + 12) st1) ++ hsW G (b + 21) (fun _ => st1, 0, 0)) H := hP
  refine lv_aload_n hx hb dX6_init_48 rfl (lv_at hl 0 rfl) ?_
  refine W_size fun hz0 => ?_
  have hz : H.size = (b + 149) := size_eq hs hz0 (hP 148 _ rfl).lt rfl
  refine new_n (ci := 1) (fs := [.null, .null]) (C := RX1) (T := TX1) (N := 2) hx hb hts (by decide +kernel) tyX1 tyX1_ok hown (hts (.classLink RX6 33 RX1) (by decide +kernel)) (hts (.instantiable RX1 2) (by decide +kernel)) (hts (.initialized RX1) (by decide +kernel)) hO.1 hP hS rfl (fun j hj => by rcases (show j = 0 ∨ j = 1 by omega) with rfl | rfl <;> rfl) (Nat.le_of_ble_eq_true rfl) (Nat.le_of_ble_eq_true rfl) hz dX6_init_49 (fun H hP hz hS => ?_)
  have hP : va_P G.1 vwCl ((((([(b, .inr (4, [.ref (b + 1), .ref (b + 3), .ref (b + 12), .ref (b + 21), .null]))] ++ txW G (b + 1) txZ) ++ stW G (b + 3) st1) ++ stW G (b + 12) st1) ++ hsW G (b + 21) (fun _ => st1, 0, 0)) ++ [((b + 149), .inr (1, [.null, .null]))]) H := hP
  refine lv_dup hx hb dX6_init_52 rfl ?_
  refine cl_cv (rIN (As := []) (rest := [.ref (b + 149), .ref b]) ⟨hx, hb, hml, hown, hts⟩ (c_X1_init l G (b + 149)) ⟨va_cnB 0 hts gX6_init_X1_init_n35 rfl rfl rfl (hO.2 _ (List.mem_of_getElem? (i := 17) rfl)) (hts (.initialized RX1) (by decide +kernel)) (by decide +kernel) ⟨Nat.le_of_ble_eq_true rfl, Nat.le_of_ble_eq_true rfl⟩, rfl, hts (.instanceMethod yX1_init) (by decide +kernel)⟩ ⟨hz, (P_app.mp hP).2⟩ hO hAO rfl hl.1 (Nat.le_of_ble_eq_true rfl) dX6_init_53 ⟨Nat.le_of_ble_eq_true rfl, Nat.le_of_ble_eq_true rfl⟩) hS (fun q h => Nat.le_trans (by omega) h) (fun H locs hP1 _ hk hS => ?_)
  have hP := P_out (a := b) (P_app.mp hP).1 (Adr.app (Adr.app (Adr.app (Adr.app Adr.one (tx_adr G (b + 1) txZ) rfl) (st_adr G (b + 3) st1) rfl) (st_adr G (b + 12) st1) rfl) (hs_adr G (b + 21) _) rfl) hk (fun q h1 h2 h3 => absurd h3 (Nat.not_le.mpr h2))
  have hz := hP1.1
  have hP := P_app.mpr ⟨hP, hP1.2⟩
  have hP : va_P G.1 vwCl ((((([(b, .inr (4, [.ref (b + 1), .ref (b + 3), .ref (b + 12), .ref (b + 21), .null]))] ++ txW G (b + 1) txZ) ++ stW G (b + 3) st1) ++ stW G (b + 12) st1) ++ hsW G (b + 21) (fun _ => st1, 0, 0)) ++ svW G (b + 149) (fun _ => st1, zR)) H := hP
  refine va_putF (D := G.1) (ci := 4) (v := .ref (b + 149)) (ty := .object "CurbCars$SaveSlots") (C := RX6) (T := TX6) (N := 5) hx hb hts hin tyX6 tyX6_ok nmX6 hown hO.1 hP (Adr.D (Adr.app (Adr.app (Adr.app (Adr.app (Adr.app Adr.one (tx_adr G (b + 1) txZ) rfl) (st_adr G (b + 3) st1) rfl) (st_adr G (b + 12) st1) rfl) (hs_adr G (b + 21) _) rfl) (sv_adr G (b + 149) _) rfl) (fun q h _ => h)) hS 0 rfl rfl 4 (by decide) (hts (.fieldLink RX6 36 "CurbCars" "slots" "LCurbCars$SaveSlots;") (by decide +kernel)) (fun _ h9 => h9) rfl hnm rfl (by decide +kernel) rfl rfl (Nat.le_of_ble_eq_true rfl) dX6_init_56 (fun H locs hP hD hS => ?_)
  have hP : va_P G.1 vwCl ((((([(b, .inr (4, [.ref (b + 1), .ref (b + 3), .ref (b + 12), .ref (b + 21), .ref (b + 149)]))] ++ txW G (b + 1) txZ) ++ stW G (b + 3) st1) ++ stW G (b + 12) st1) ++ hsW G (b + 21) (fun _ => st1, 0, 0)) ++ svW G (b + 149) (fun _ => st1, zR)) H := hP
  refine W_size fun hz0 => ?_
  have hz : H.size = (b + 170) := size_eq hs hz0 (hP 169 _ rfl).lt rfl
  exact W.vret hx hb hr (fun t ht hW => ⟨rfl, by rw [ht]; exact ⟨hz, hP⟩, hS.F ht⟩) hS.2.2 dX6_init_59

/-! the object: text, now, trial, history, slots -/
abbrev Cx : Type := Tt × St × St × Hi × Sl
def xT (X : Cx) : Tt := X.1
def xN (X : Cx) : St := X.2.1
def xR (X : Cx) : St := X.2.2.1
def xH (X : Cx) : Hi := X.2.2.2.1
def xS (X : Cx) : Sl := X.2.2.2.2
def yT (X : Cx) (v : Tt) : Cx := (v, X.2)
def yN (X : Cx) (v : St) : Cx := (X.1, v, X.2.2)
def yR (X : Cx) (v : St) : Cx := (X.1, X.2.1, v, X.2.2.2)
def yH (X : Cx) (v : Hi) : Cx := (X.1, X.2.1, X.2.2.1, v, X.2.2.2.2)
def yS (X : Cx) (v : Sl) : Cx := (X.1, X.2.1, X.2.2.1, X.2.2.2.1, v)
abbrev cbO (b : Nat) : va_W := [(b, .inr (4, [.ref (b + 1), .ref (b + 3), .ref (b + 12), .ref (b + 21), .ref (b + 149)]))]
def Cb (G : GG) (b : Nat) (X : Cx) (H : Heap) : Prop := va_P G.1 vwCl (cbO b) H ∧ Tx G (b + 1) (xT X) H ∧ Str G (b + 3) (xN X) H ∧ Str G (b + 12) (xR X) H ∧ va_P G.1 vwCl (hsW G (b + 21) (xH X)) H ∧ va_P G.1 vwCl (svW G (b + 149) (xS X)) H
theorem P_o {D : va_G} {cl : List vw_C} {ws : va_W} {H H1 : Heap} {fr : Nat → Prop} {a n : Nat} (hP : va_P D cl ws H) (hA : Adr a ws) (hn : ws.length = n) (hk : ∀ q : Nat, q < H.size → ¬ fr q → H1[q]? = H[q]?) (hd : ∀ q, a ≤ q → q < a + n → ¬ fr q) : va_P D cl ws H1 :=
  P_out hP hA hk fun q h1 h2 => hd q h1 (by rw [hn] at h2; exact h2)
theorem cb_out {G : GG} {b : Nat} {X : Cx} {H H1 : Heap} {fr : Nat → Prop} (h : Cb G b X H) (hk : ∀ q : Nat, q < H.size → ¬ fr q → H1[q]? = H[q]?) (hd : ∀ q, b ≤ q → q < b + 170 → ¬ fr q) : Cb G b X H1 :=
  ⟨P_o (n := 1) h.1 Adr.one rfl hk (fun q h1 h2 => hd q (by omega) (by omega)), P_o (n := 2) h.2.1 (tx_adr G _ _) rfl hk (fun q h1 h2 => hd q (by omega) (by omega)), P_o (n := 9) h.2.2.1 (st_adr G _ _) rfl hk (fun q h1 h2 => hd q (by omega) (by omega)), P_o (n := 9) h.2.2.2.1 (st_adr G _ _) rfl hk (fun q h1 h2 => hd q (by omega) (by omega)), P_o h.2.2.2.2.1 (hs_adr G _ _) (hs_len G _ _) hk (fun q h1 h2 => hd q (by omega) (by omega)), P_o h.2.2.2.2.2 (sv_adr G _ _) (sv_len G _ _) hk (fun q h1 h2 => hd q (by omega) (by omega))⟩

theorem cb_text {G : GG} {b : Nat} {X : Cx} {v : Tt} {H H1 : Heap} (h : Cb G b X H) (g : Tx G (b + 1) v H1) (hk : ∀ q : Nat, q < H.size → ¬ blk (b + 1) (b + 1 + 2) q → H1[q]? = H[q]?) : Cb G b (yT X v) H1 :=
  ⟨P_o (n := 1) h.1 Adr.one rfl hk (fun q h1 h2 z => by simp only [blk, blk2, blkh] at z; omega),
   g,
   P_o (n := 9) h.2.2.1 (st_adr G _ _) rfl hk (fun q h1 h2 z => by simp only [blk, blk2, blkh] at z; omega),
   P_o (n := 9) h.2.2.2.1 (st_adr G _ _) rfl hk (fun q h1 h2 z => by simp only [blk, blk2, blkh] at z; omega),
   P_o h.2.2.2.2.1 (hs_adr G _ _) (hs_len G _ _) hk (fun q h1 h2 z => by simp only [blk, blk2, blkh] at z; omega),
   P_o h.2.2.2.2.2 (sv_adr G _ _) (sv_len G _ _) hk (fun q h1 h2 z => by simp only [blk, blk2, blkh] at z; omega)⟩

theorem cb_now {G : GG} {b : Nat} {X : Cx} {v : St} {H H1 : Heap} (h : Cb G b X H) (g : Str G (b + 3) v H1) (hk : ∀ q : Nat, q < H.size → ¬ blk (b + 3) (b + 3 + 9) q → H1[q]? = H[q]?) : Cb G b (yN X v) H1 :=
  ⟨P_o (n := 1) h.1 Adr.one rfl hk (fun q h1 h2 z => by simp only [blk, blk2, blkh] at z; omega),
   P_o (n := 2) h.2.1 (tx_adr G _ _) rfl hk (fun q h1 h2 z => by simp only [blk, blk2, blkh] at z; omega),
   g,
   P_o (n := 9) h.2.2.2.1 (st_adr G _ _) rfl hk (fun q h1 h2 z => by simp only [blk, blk2, blkh] at z; omega),
   P_o h.2.2.2.2.1 (hs_adr G _ _) (hs_len G _ _) hk (fun q h1 h2 z => by simp only [blk, blk2, blkh] at z; omega),
   P_o h.2.2.2.2.2 (sv_adr G _ _) (sv_len G _ _) hk (fun q h1 h2 z => by simp only [blk, blk2, blkh] at z; omega)⟩

theorem cb_trial {G : GG} {b : Nat} {X : Cx} {v : St} {H H1 : Heap} (h : Cb G b X H) (g : Str G (b + 12) v H1) (hk : ∀ q : Nat, q < H.size → ¬ blk (b + 12) (b + 12 + 9) q → H1[q]? = H[q]?) : Cb G b (yR X v) H1 :=
  ⟨P_o (n := 1) h.1 Adr.one rfl hk (fun q h1 h2 z => by simp only [blk, blk2, blkh] at z; omega),
   P_o (n := 2) h.2.1 (tx_adr G _ _) rfl hk (fun q h1 h2 z => by simp only [blk, blk2, blkh] at z; omega),
   P_o (n := 9) h.2.2.1 (st_adr G _ _) rfl hk (fun q h1 h2 z => by simp only [blk, blk2, blkh] at z; omega),
   g,
   P_o h.2.2.2.2.1 (hs_adr G _ _) (hs_len G _ _) hk (fun q h1 h2 z => by simp only [blk, blk2, blkh] at z; omega),
   P_o h.2.2.2.2.2 (sv_adr G _ _) (sv_len G _ _) hk (fun q h1 h2 z => by simp only [blk, blk2, blkh] at z; omega)⟩

theorem cb_hist {G : GG} {b : Nat} {X : Cx} {v : Hi} {H H1 : Heap} (h : Cb G b X H) (g : va_P G.1 vwCl (hsW G (b + 21) v) H1) (hk : ∀ q : Nat, q < H.size → ¬ blk (b + 21) (b + 21 + 128) q → H1[q]? = H[q]?) : Cb G b (yH X v) H1 :=
  ⟨P_o (n := 1) h.1 Adr.one rfl hk (fun q h1 h2 z => by simp only [blk, blk2, blkh] at z; omega),
   P_o (n := 2) h.2.1 (tx_adr G _ _) rfl hk (fun q h1 h2 z => by simp only [blk, blk2, blkh] at z; omega),
   P_o (n := 9) h.2.2.1 (st_adr G _ _) rfl hk (fun q h1 h2 z => by simp only [blk, blk2, blkh] at z; omega),
   P_o (n := 9) h.2.2.2.1 (st_adr G _ _) rfl hk (fun q h1 h2 z => by simp only [blk, blk2, blkh] at z; omega),
   g,
   P_o h.2.2.2.2.2 (sv_adr G _ _) (sv_len G _ _) hk (fun q h1 h2 z => by simp only [blk, blk2, blkh] at z; omega)⟩

theorem cb_slot {G : GG} {b : Nat} {X : Cx} {v : Sl} {H H1 : Heap} (h : Cb G b X H) (g : va_P G.1 vwCl (svW G (b + 149) v) H1) (hk : ∀ q : Nat, q < H.size → ¬ blk (b + 149) (b + 149 + 21) q → H1[q]? = H[q]?) : Cb G b (yS X v) H1 :=
  ⟨P_o (n := 1) h.1 Adr.one rfl hk (fun q h1 h2 z => by simp only [blk, blk2, blkh] at z; omega),
   P_o (n := 2) h.2.1 (tx_adr G _ _) rfl hk (fun q h1 h2 z => by simp only [blk, blk2, blkh] at z; omega),
   P_o (n := 9) h.2.2.1 (st_adr G _ _) rfl hk (fun q h1 h2 z => by simp only [blk, blk2, blkh] at z; omega),
   P_o (n := 9) h.2.2.2.1 (st_adr G _ _) rfl hk (fun q h1 h2 z => by simp only [blk, blk2, blkh] at z; omega),
   P_o h.2.2.2.2.1 (hs_adr G _ _) (hs_len G _ _) hk (fun q h1 h2 z => by simp only [blk, blk2, blkh] at z; omega),
   g⟩

theorem cb_copy {G : GG} {b : Nat} {X : Cx}  {H H1 : Heap} (h : Cb G b X H) (g : Str2 G (b + 12) (b + 3) (h_X4_copyFrom (xR X) (xN X)) (xN X) H1) (hk : ∀ q : Nat, q < H.size → ¬ blk2 (b + 12) (b + 3) q → H1[q]? = H[q]?) : Cb G b (yR X (xN X)) H1 :=
  ⟨P_o (n := 1) h.1 Adr.one rfl hk (fun q h1 h2 z => by simp only [blk, blk2, blkh] at z; omega),
   P_o (n := 2) h.2.1 (tx_adr G _ _) rfl hk (fun q h1 h2 z => by simp only [blk, blk2, blkh] at z; omega),
   (cp_cells g).2,
   (cp_cells g).1,
   P_o h.2.2.2.2.1 (hs_adr G _ _) (hs_len G _ _) hk (fun q h1 h2 z => by simp only [blk, blk2, blkh] at z; omega),
   P_o h.2.2.2.2.2 (sv_adr G _ _) (sv_len G _ _) hk (fun q h1 h2 z => by simp only [blk, blk2, blkh] at z; omega)⟩

theorem cb_hist2 {G : GG} {b : Nat} {X : Cx} {v : HS} {H H1 : Heap} (h : Cb G b X H) (g : Hst2 G (b + 21) (b + 3) v H1) (hk : ∀ q : Nat, q < H.size → ¬ blkh (b + 21) 128 (b + 3) q → H1[q]? = H[q]?) : Cb G b (yH (yN X (hT v)) (hH v)) H1 :=
  ⟨P_o (n := 1) h.1 Adr.one rfl hk (fun q h1 h2 z => by simp only [blk, blk2, blkh] at z; omega),
   P_o (n := 2) h.2.1 (tx_adr G _ _) rfl hk (fun q h1 h2 z => by simp only [blk, blk2, blkh] at z; omega),
   (P_app.mp g).2,
   P_o (n := 9) h.2.2.2.1 (st_adr G _ _) rfl hk (fun q h1 h2 z => by simp only [blk, blk2, blkh] at z; omega),
   (P_app.mp g).1,
   P_o h.2.2.2.2.2 (sv_adr G _ _) (sv_len G _ _) hk (fun q h1 h2 z => by simp only [blk, blk2, blkh] at z; omega)⟩

theorem cb_slot2 {G : GG} {b : Nat} {X : Cx} {v : VS} {H H1 : Heap} (h : Cb G b X H) (g : Slt2 G (b + 149) (b + 3) v H1) (hk : ∀ q : Nat, q < H.size → ¬ blkh (b + 149) 21 (b + 3) q → H1[q]? = H[q]?) : Cb G b (yS (yN X (vT v)) (vH v)) H1 :=
  ⟨P_o (n := 1) h.1 Adr.one rfl hk (fun q h1 h2 z => by simp only [blk, blk2, blkh] at z; omega),
   P_o (n := 2) h.2.1 (tx_adr G _ _) rfl hk (fun q h1 h2 z => by simp only [blk, blk2, blkh] at z; omega),
   (P_app.mp g).2,
   P_o (n := 9) h.2.2.2.1 (st_adr G _ _) rfl hk (fun q h1 h2 z => by simp only [blk, blk2, blkh] at z; omega),
   P_o h.2.2.2.2.1 (hs_adr G _ _) (hs_len G _ _) hk (fun q h1 h2 z => by simp only [blk, blk2, blkh] at z; omega),
   (P_app.mp g).1⟩

/-- all cells, the trial's first -/
abbrev cbR (G : GG) (b : Nat) (X : Cx) : va_W := cbO b ++ (txW G (b + 1) (xT X) ++ (stW G (b + 3) (xN X) ++ (hsW G (b + 21) (xH X) ++ svW G (b + 149) (xS X))))
theorem cb_fl {G : GG} {b : Nat} {X : Cx} {H : Heap} (h : Cb G b X H) : va_P G.1 vwCl (stW G (b + 12) (xR X) ++ cbR G b X) H := P_app.mpr ⟨h.2.2.2.1, P_app.mpr ⟨h.1, P_app.mpr ⟨h.2.1, P_app.mpr ⟨h.2.2.1, P_app.mpr ⟨h.2.2.2.2.1, h.2.2.2.2.2⟩⟩⟩⟩⟩
theorem cb_un {G : GG} {b : Nat} {X : Cx} {v : St} {H : Heap} (h : va_P G.1 vwCl (stW G (b + 12) v ++ cbR G b X) H) : Cb G b (yR X v) H := by
  have h1 := P_app.mp (P_app.mp h).2
  have h2 := P_app.mp h1.2
  have h3 := P_app.mp h2.2
  exact ⟨h1.1, h2.1, h3.1, (P_app.mp h).1, P_app.mp h3.2⟩
theorem cb_D {G : GG} {b : Nat} {X : Cx} {A : Nat → Prop} (hA : ∀ q, blk b (b + 170) q → A q) : va_D A (stW G (b + 12) (xR X) ++ cbR G b X) := by
  have a0 : Adr b (cbO b ++ (txW G (b + 1) (xT X) ++ stW G (b + 3) (xN X))) := Adr.one.app (Adr.app (tx_adr G (b + 1) (xT X)) (st_adr G (b + 3) (xN X)) rfl) rfl
  have a1 : Adr (b + 21) (hsW G (b + 21) (xH X) ++ svW G (b + 149) (xS X)) := Adr.app (hs_adr G (b + 21) (xH X)) (sv_adr G (b + 149) (xS X)) (by rw [hs_len])
  have n1 : (hsW G (b + 21) (xH X) ++ svW G (b + 149) (xS X)).length = 149 := by rw [List.length_append, hs_len, sv_len]
  have d0 : va_D A (cbO b ++ (txW G (b + 1) (xT X) ++ stW G (b + 3) (xN X))) := a0.D fun q h1 h2 => hA q ⟨h1, by
    have h3 : q < b + 12 := h2
    omega⟩
  have d1 : va_D A (hsW G (b + 21) (xH X) ++ svW G (b + 149) (xS X)) := a1.D fun q h1 h2 => hA q ⟨by omega, by rw [n1] at h2; omega⟩
  have d01 := va_D.app d0 d1 (fun i j p q hp hq e => by
    have h1 := a0.lt hp
    have h2 := a1.lt hq
    have h3 : p.1 < b + 12 := h1.2
    omega)
  have e : (cbO b ++ (txW G (b + 1) (xT X) ++ stW G (b + 3) (xN X))) ++ (hsW G (b + 21) (xH X) ++ svW G (b + 149) (xS X)) = cbR G b X := by
    simp only [List.append_assoc, List.cons_append, List.nil_append]
  rw [e] at d01
  have dt : va_D A (stW G (b + 12) (xR X)) := st_D (b + 12) (xR X) fun q h => hA q ⟨by have := h.1; omega, by have := h.2; omega⟩
  refine va_D.app dt d01 (fun i j p q hp hq e9 => ?_)
  have h1 := st_blk hp
  rw [← e] at hq
  by_cases c : j < (cbO b ++ (txW G (b + 1) (xT X) ++ stW G (b + 3) (xN X))).length
  · rw [List.getElem?_append_left c] at hq
    have h3 := (a0.lt hq).2
    have h4 : q.1 < b + 12 := h3
    omega
  · rw [List.getElem?_append_right (by omega)] at hq
    have h3 := a1.lt hq
    omega
theorem cb_pO {G : GG} {b : Nat} {X : Cx} {v : Int32} {H : Heap} (h : va_P G.1 vwCl ((stW G (b + 12) (xR X) ++ cbR G b X).set 0 (b + 12, .inr (2, ([.ref (b + 12 + 1), .ref (b + 12 + 2), .ref (b + 12 + 3), .ref (b + 12 + 4), .ref (b + 12 + 5), .ref (b + 12 + 6), .ref (b + 12 + 7), .ref (b + 12 + 8), .int (sN (xR X)), .int (sM (xR X)), .long (sH (xR X)), .int (sU (xR X)), .int (sO (xR X)), .int (sE (xR X))] : List Value).set 11 (.int v)))) H) : Cb G b (yR X (wU (xR X) v)) H := cb_un (v := wU (xR X) v) h
theorem cb_pH {G : GG} {b : Nat} {X : Cx} {v : Int64} {H : Heap} (h : va_P G.1 vwCl ((stW G (b + 12) (xR X) ++ cbR G b X).set 0 (b + 12, .inr (2, ([.ref (b + 12 + 1), .ref (b + 12 + 2), .ref (b + 12 + 3), .ref (b + 12 + 4), .ref (b + 12 + 5), .ref (b + 12 + 6), .ref (b + 12 + 7), .ref (b + 12 + 8), .int (sN (xR X)), .int (sM (xR X)), .long (sH (xR X)), .int (sU (xR X)), .int (sO (xR X)), .int (sE (xR X))] : List Value).set 10 (.long v)))) H) : Cb G b (yR X (wH (xR X) v)) H := cb_un (v := wH (xR X) v) h
theorem cb_recv {G : GG} {s : State} {H : Heap} {b : Nat} {X : Cx} (hO : Ok G s) (hP : Cb G b X H) : ∃ cell : Cell, H[b]? = some cell ∧ cell.vm.isStatics = false ∧ s.vm.findClass RX6 = some cell.cls := va_recv hO.1 hP.1 (ci := 4) (q0 := 0) rfl rfl
theorem tx_recv' {G : GG} {s : State} {H : Heap} {t : Nat} {X : Tt} (hO : Ok G s) (hP : Tx G t X H) : ∃ cell : Cell, H[t]? = some cell ∧ cell.vm.isStatics = false ∧ s.vm.findClass RX5 = some cell.cls := va_recv hO.1 hP (ci := 3) (q0 := 0) rfl rfl
theorem hs_recv0 {G : GG} {s : State} {H : Heap} {a : Nat} {D : Hi} (hO : Ok G s) (hP : va_P G.1 vwCl (hsW G a D) H) : ∃ cell : Cell, H[a]? = some cell ∧ cell.vm.isStatics = false ∧ s.vm.findClass RX0 = some cell.cls := va_recv hO.1 hP (ci := 0) (q0 := 0) rfl rfl
theorem sv_recv0 {G : GG} {s : State} {H : Heap} {a : Nat} {D : Sl} (hO : Ok G s) (hP : va_P G.1 vwCl (svW G a D) H) : ∃ cell : Cell, H[a]? = some cell ∧ cell.vm.isStatics = false ∧ s.vm.findClass RX1 = some cell.cls := va_recv hO.1 hP (ci := 1) (q0 := 0) rfl rfl
/-- the object as it is made -/
def cx1 : Cx := (txZ, st1, st1, (fun _ => st1, 0, 0), (fun _ => st1, zR))
theorem cb_new {G : GG} {b : Nat} {H : Heap} (h : va_P G.1 vwCl (((((([(b, .inr (4, [.ref (b + 1), .ref (b + 3), .ref (b + 12), .ref (b + 21), .ref (b + 149)]))] ++ txW G (b + 1) txZ) ++ stW G (b + 3) st1) ++ stW G (b + 12) st1) ++ hsW G (b + 21) (fun _ => st1, 0, 0)) ++ svW G (b + 149) (fun _ => st1, zR))) H) : Cb G b cx1 H := by
  have h1 := P_app.mp h
  have h2 := P_app.mp h1.1
  have h3 := P_app.mp h2.1
  have h4 := P_app.mp h3.1
  have h5 := P_app.mp h4.1
  exact ⟨h5.1, h5.2, h4.2, h3.2, h2.2, h1.2⟩

/-! throwing -/
def thrL : List Cond := [.declares (Bundle.initS "java/lang/RuntimeException"), .declares (Bundle.initS "java/lang/Exception"), .declares (Bundle.initS Bundle.tN), .castable "java/lang/IllegalArgumentException" "java/lang/IllegalArgumentException", .castable "java/lang/IllegalStateException" "java/lang/IllegalStateException", .castable "java/lang/IndexOutOfBoundsException" "java/lang/IndexOutOfBoundsException"]
def strL : List (Nat × String) := [(111, "what is not 0 to 11"), (42, "c is not 0 to 255"), (53, "the text has 120 characters"), (146, "what is not 0 to 6"), (193, "stay is not 1 to 99"), (198, "40 cars came"), (159, "no such gap"), (177, "a car stands there"), (67, "the text is not a street"), (222, "n is not 1 to 60"), (214, "the car is not parked, or cannot be moved there"), (313, "no such car"), (320, "no such cell"), (325, "length is not 2 to 8"), (315, "the car is not parked"), (329, "no such save slot"), (327, "the second argument is neither 0 nor 1"), (305, "nothing has been saved there"), (272, "n is not 1 to 3"), (276, "the script is negative or has more than 6 * n digits"), (230, "there is no such setting, or v is out of its range"), (171, "what is not 0 to 2"), (284, "m is not 1 to 60"), (238, "no state is remembered")]
def Thr (A : Nat → Prop) (U : State) : Prop := (∀ w ∈ thrL, va_Nw w U) ∧ vx_Zq Bundle.tN "UNASSIGNED_STACK" Bundle.steD A U U.heap ∧ vx_Zq Bundle.tN "SUPPRESSED_SENTINEL" Bundle.listD A U U.heap ∧ ∀ (k : Nat) (q : Nat × String), strL[k]? = some q → ∃ sa : Nat, vk_R RX6 q.1 q.2 sa U
def isThr (w : Cond) : Bool := match w with
  | .declares _ => true
  | .castable _ _ => true
  | _ => false
theorem thrL_ok : thrL.all isThr = true := by decide +kernel
theorem thr_warm {w : Cond} (hw : isThr w = true) {s U : State} (hW : s.WarmedH U.vm) (h : va_Nw w s) : va_Nw w U := by
  cases w <;> first | exact va_Nw.warmD hW h | exact va_Nw.warmC hW h | exact absurd hw (by simp [isThr])
theorem Thr.warm {A : Nat → Prop} {s U : State} (hW : s.WarmedH U.vm) (hH : U.heap = s.heap) (h : Thr A s) : Thr A U :=
  ⟨fun w hw => thr_warm (List.all_eq_true.mp thrL_ok w hw) hW (h.1 w hw), by rw [hH]; exact vx_Zq.moved hW.alike h.2.1, by rw [hH]; exact vx_Zq.moved hW.alike h.2.2.1, fun k q hq => by
    obtain ⟨sa, g⟩ := h.2.2.2 k q hq
    exact ⟨sa, vk_R.warm hW g⟩⟩
theorem Thr.calling {A : Nat → Prop} {U : State} {g : JFrame} {mk : MethodId} {a : Array Value} (h : Thr A U) : Thr A (U.calling g mk a) :=
  ⟨fun w hw => by
    have e : w.onTables = true := by
      have := List.all_eq_true.mp thrL_ok w hw
      cases w <;> first | rfl | exact absurd this (by simp [isThr])
    exact va_Nw.same (u := U) (U := U.calling g mk a) e rfl (h.1 w hw), vx_Zq.moved (u := U) (U := U.calling g mk a) (Vm.Alike.refl U.vm) h.2.1, vx_Zq.moved (u := U) (U := U.calling g mk a) (Vm.Alike.refl U.vm) h.2.2.1, fun k q hq => by
    obtain ⟨sa, g'⟩ := h.2.2.2 k q hq
    exact ⟨sa, vk_R.same (u := U) (U := U.calling g mk a) rfl g'⟩⟩
theorem Thr.sub {A B : Nat → Prop} {U : State} (h : Thr A U) (hAB : ∀ q, B q → A q) : Thr B U := ⟨h.1, h.2.1.narrow hAB, h.2.2.1.narrow hAB, h.2.2.2⟩
/-- later, in another heap -/
theorem Thr.kept {A : Nat → Prop} {s U : State} (hW : s.WarmedH U.vm) (hk : ∀ a : Nat, a < s.heap.size → ¬ A a → U.heap[a]? = s.heap[a]?) (h : Thr A s) : Thr A U :=
  ⟨fun w hw => thr_warm (List.all_eq_true.mp thrL_ok w hw) hW (h.1 w hw), vx_Zq.moved hW.alike (h.2.1.kept hk), vx_Zq.moved hW.alike (h.2.2.1.kept hk), fun k q hq => by
    obtain ⟨sa, g⟩ := h.2.2.2 k q hq
    exact ⟨sa, vk_R.warm hW g⟩⟩
def PcT (G : GG) (A : Nat → Prop) (av : List Value) (P : Heap → Prop) : Array Value → State → Prop := fun v U => v = av.toArray ∧ P U.heap ∧ Ok G U ∧ Thr A U
theorem PcT_blind {G : GG} {A : Nat → Prop} {av : List Value} {P : Heap → Prop} : FrameBlind (PcT G A av P) := fun _ _ _ _ h => ⟨h.1, h.2.1, h.2.2.1.calling, h.2.2.2.calling⟩
/-- ends: an answer, and the world behind it; or a throw, and nothing written -/
def QX {σ : Type} (h : String ⊕ (Int32 × σ)) (P : σ → Heap → Prop) (fr : Nat → Prop) : Array Value → State → Outcome → State → Prop := fun _ st oc t => ∃ (r : Int32) (x : σ), h = .inr (r, x) ∧ oc = .returned (some (.int r)) ∧ P x t.heap ∧ va_F fr st t
def XX {σ : Type} (h : String ⊕ σ) : String → State → State → Prop := fun E st t => h = .inl E ∧ va_F noA st t
def QNo : Array Value → State → Outcome → State → Prop := fun _ _ _ _ => False
def XT (E0 : String) : String → State → State → Prop := fun E st t => E = E0 ∧ va_F noA st t
section XC
variable {p : Program} {l : Launch} {e : Env} {R : Room} {s : State} {m : MethodId} {args : Array Value} {below : List Frame} {meth : Method} {c : Code} {H : Heap} {locs : List Loc} {cells slots : Nat} {Q : State → Prop}
variable {cc : ByteArray} {pc : Nat} {ls : Array Slot} {rest st0 : List Value} {a : Array Value} {A fr : Nat → Prop} {H0 : Heap} {mc ms : Nat} {G : GG} {ws : va_W}
variable {Qc : Array Value → State → Outcome → State → Prop} {XC : String → State → State → Prop} {free : Addr → Prop} {y : MethodName} {bytes : ByteArray} {maxL nL n index : Nat} {ret : Option FieldType} {wsc : List Cond} {rm : Room} {Ts : List Cond} {own C : String} {b : Addr} {As : List Value} {P : Heap → Prop}
theorem metX {av : List Value} {ws' : List Cond} (hy : plainName y.cls = true) (hw : wsc = Cond.code y cc maxL ret :: ws')
    (body : ∀ (p : Program) (e : Env) (s : State) (m : MethodId) (below : List Frame) (meth : Method) (c : Code), p.tables.exec = Jvm.exec → c.code = cc → meth.sig.returnType = ret → c.maxLocals = maxL → s.vm.findClass y.cls = some m.cls →
      (∀ w ∈ wsc, w.before av.toArray s = true) → meth.locks = false → (∀ x ∈ c.exceptionTable.toList, False) → P s.heap → Ok G s → Thr A s →
      W p l e (headSpec wsc rm).room s m av.toArray below meth c s.heap [] 0 0 (vx_MQ below Qc XC av.toArray s mc ms free) (entryFrame m av.toArray maxL)) : vx_Met l y wsc rm (PcT G A av P) Qc XC mc ms free := by
  refine vx_ofW (cc := cc) (maxL := maxL) (ret := ret) hy hw ?_
  intro p e s m args below meth c s₁ B hml hno hv
  obtain ⟨rfl, hP, hO, hT⟩ := hv
  exact body p e s m below meth c B.exec B.bytes B.returns hml (findClass_of_methodNamed B.named) (atoms_spec (ws := wsc) B.pre) B.notSynchronized hno hP hO hT
theorem xW (S : CallFix p m c cc nL s args Ts own) (hM : vx_Met l y wsc rm (PcT G A (.ref b :: As) P) Qc XC mc ms free) (cw : CallW R s args own C index y bytes maxL ret wsc rm mc ms n)
    (hr : ∃ cell : Cell, H[b]? = some cell ∧ cell.vm.isStatics = false ∧ s.vm.findClass C = some cell.cls) (hP : P H) (hO : Ok G s) (hT : ∀ U : State, U.heap = H → s.WarmedH U.vm → Thr A U)
    (hn : As.length = n) (hsize : ls.size = nL) (hW : (rest.map fun v => v.category).sum ≤ 8) (hdg : decode cc pc = .ok (.invokevirtual index, 3)) (hf : cells + mc ≤ R.cells ∧ slots + ms ≤ R.slots) :
    vx_Run p l e R s m args below meth c H locs cells slots mc ms (F0 m pc ls (As.reverse ++ .ref b :: rest)) rest (Qc (Value.ref b :: As).toArray) XC free :=
  vx_runV S hM cw ⟨PcT_blind, hr, fun U hU hW => ⟨rfl, by rw [hU]; exact hP, hO.warm hW, hT U hU hW⟩⟩ rfl hn hsize rfl (lv_room hW) hdg hf
theorem xZ (S : CallFix p m c cc nL s args Ts own) (hM : vx_Met l y wsc rm (PcT G A As P) Qc XC mc ms free) (cw : CallB R s args own index y bytes maxL ret wsc rm mc ms n ∧ (Cond.static y).before args s = true)
    (hP : P H) (hO : Ok G s) (hT : ∀ U : State, U.heap = H → s.WarmedH U.vm → Thr A U)
    (hn : As.length = n) (hsize : ls.size = nL) (hW : (rest.map fun v => v.category).sum ≤ 8) (hdg : decode cc pc = .ok (.invokestatic index, 3)) (hf : cells + mc ≤ R.cells ∧ slots + ms ≤ R.slots) :
    vx_Run p l e R s m args below meth c H locs cells slots mc ms (F0 m pc ls (As.reverse ++ rest)) rest (Qc As.toArray) XC free :=
  vx_runS S hM cw ⟨PcT_blind, fun U hU hW => ⟨rfl, by rw [hU]; exact hP, hO.warm hW, hT U hU hW⟩⟩ rfl hn hsize rfl (lv_room hW) hdg hf
/-- a callee throws, and so does this method -/
theorem cl_tx {E0 : String} {mc' ms' : Nat} {fr' : Addr → Prop} (hr : vx_Run p l e R s m args below meth c s.heap [] cells slots mc ms (F0 m pc ls st0) rest (QNo a) (XT E0) fr) (hf : ∀ q, fr q → fr' q) (hno : ∀ x ∈ c.exceptionTable.toList, False) (hlocks : meth.locks = false) (hc : cells + mc ≤ mc') (hs : slots + ms ≤ ms') (hx : ∀ t : State, va_F noA s t → XC E0 s t) :
    W p l e R s m args below meth c s.heap [] cells slots (vx_MQ below Qc XC args s mc' ms' fr') (F0 m pc ls st0) := by
  intro T hT X
  rcases hr T hT X with ⟨v, st₀, t, T', L, h0, X', hL, e1, e2, hq, st⟩ | ⟨q, st₀, t, T', L, E, ce, h0, X', hL, e1, e2, ⟨hE, hF⟩, hce, hcv, hcl, st⟩
  · exact hq.elim
  · rw [hE] at hcl
    have hF' : s.heap.size ≤ T'.heap.size ∧ ∀ q : Nat, q < s.heap.size → ¬ noA q → T'.heap[q]? = s.heap[q]? := by
      rw [e1, ← h0]
      exact hF
    obtain ⟨t2, a1, b1⟩ := vx_out (rest := rest) (fun x hx => (hno x hx).elim) hlocks (by rw [e1]; exact hce) hcv hcl (fun t ht _ => hx t (by unfold va_F; rw [ht]; exact hF')) (fun z hz => hf _ (hL z hz)) hc hs T' rfl X'
    exact ⟨t2, st.trans a1, b1⟩
end XC

theorem thr_sub44 : ∀ w ∈ (vx_atS RX6 44 "java/lang/IllegalArgumentException" ["java/lang/RuntimeException", "java/lang/Exception"]).filter (fun w => !goodWord w), w ∈ thrL := by decide +kernel
theorem thr_good44 : ∀ w ∈ Cond.classLink RX6 40 "java/lang/IllegalArgumentException" :: Cond.initialized "java/lang/IllegalArgumentException" :: vx_atS RX6 44 "java/lang/IllegalArgumentException" ["java/lang/RuntimeException", "java/lang/Exception"], vx_ot w = true := by decide +kernel

theorem thr_sub55 : ∀ w ∈ (vx_atS RX6 55 "java/lang/IllegalStateException" ["java/lang/RuntimeException", "java/lang/Exception"]).filter (fun w => !goodWord w), w ∈ thrL := by decide +kernel
theorem thr_good55 : ∀ w ∈ Cond.classLink RX6 51 "java/lang/IllegalStateException" :: Cond.initialized "java/lang/IllegalStateException" :: vx_atS RX6 55 "java/lang/IllegalStateException" ["java/lang/RuntimeException", "java/lang/Exception"], vx_ot w = true := by decide +kernel

theorem thr_sub161 : ∀ w ∈ (vx_atS RX6 161 "java/lang/IndexOutOfBoundsException" ["java/lang/RuntimeException", "java/lang/Exception"]).filter (fun w => !goodWord w), w ∈ thrL := by decide +kernel
theorem thr_good161 : ∀ w ∈ Cond.classLink RX6 157 "java/lang/IndexOutOfBoundsException" :: Cond.initialized "java/lang/IndexOutOfBoundsException" :: vx_atS RX6 161 "java/lang/IndexOutOfBoundsException" ["java/lang/RuntimeException", "java/lang/Exception"], vx_ot w = true := by decide +kernel
