def stZ : St := (zR, zR, zR, zR, zR, zR, zR, zR, 0, 0, 0, 0, 0, 0)
def st1 : St := h_X4_makeNew stZ
def txZ : Tt := (zR, 0)

set_option maxHeartbeats 4000000 in
set_option maxRecDepth 100000 in
theorem c_X5_init (l : Launch) (G : GG) (a : Nat) : Met l yX5_init wsX5_init ({ frames := 1, cells := 1, slots := 120, locals := 12 }) (PcA G [.ref a] (fun H => H.size = a + 1 ∧ va_P G.1 vwCl [(a, .inr (3, [.null, .int 0]))] H)) (QM none (fun H => H.size = a + 2 ∧ Tx G a txZ H) (frm a)) 1 120 (frm a) := by
  refine metC (cc := cX5_init) (maxL := 1) (by decide) rfl rfl ?_
  intro p e s m below meth cd hx hb hr hml hown hts hlocks hnm hPz hO hAO
  obtain ⟨hs, hP⟩ := hPz
  have hin : ∀ w ∈ u_ws RX5 TX5 2, w ∈ wsX5_init := by decide +kernel
  have hS : va_S (frm a) s.heap s.heap [] := va_S.rf
  have hl := lv_entry ([.ref a]) (n := 1) (Nat.le_of_ble_eq_true rfl)
  rw [lg_entry_eq]
  generalize (lg_sl ([.ref a]) ++ List.replicate (1 - (lg_sl ([.ref a])).length) Slot.unset).toArray = ls at hl ⊢
  have hl : lv_has ls 1 [(0, .ref a)] := hl
  refine lv_aload_n hx hb dX5_init_0 rfl (lv_at hl 0 rfl) ?_
  refine W.objInit hx hb hown (hts (.methodLink RX5 3 objectInit) (by decide +kernel)) (hts (.instanceMethod objectInit) (by decide +kernel)) (hts _ (List.mem_of_getElem? (i := 3) rfl)) rfl (by rw [hml]; exact hl.1) rfl dX5_init_1 (Nat.le_of_ble_eq_true rfl) (Nat.le_of_ble_eq_true rfl) ?_
  refine W.eq (g2 := F0 m 4 ls []) rfl ?_
  refine lv_aload_n hx hb dX5_init_4 rfl (lv_at hl 0 rfl) ?_
  refine lv_bipush (v := 120) hx hb dX5_init_5 (by decide) ?_
  have hz : s.heap.size = (a + 1) := hs
  refine newa_n (atype := .char) (a0 := (120, .inl zR)) hx hb (hts (.arrayClass .char) (by decide +kernel)) rfl hO 1 rfl hP hS rfl (by decide) rfl (Nat.le_of_ble_eq_true rfl) (Nat.le_of_ble_eq_true rfl) (Nat.le_of_ble_eq_true rfl) hz dX5_init_7 (fun H hP _ hS => ?_)
  have hP : va_P G.1 vwCl [(a, .inr (3, [.null, .int 0])), ((a + 1), .inl (G.2 1, 120, .inl zR))] H := hP
  refine va_putF (D := G.1) (ci := 3) (v := .ref (a + 1)) (ty := .array .char) (C := RX5) (T := TX5) (N := 2) hx hb hts hin tyX5 tyX5_ok nmX5 hown hO.1 hP (Adr.D (Adr.of (n := 2) rfl) (fun q h _ => h)) hS 0 rfl rfl 0 (by decide) (hts (.fieldLink RX5 9 "CurbCars$StreetText" "letters" "[C") (by decide +kernel)) (fun _ h9 => h9) rfl hnm rfl (by decide +kernel) rfl rfl (Nat.le_of_ble_eq_true rfl) dX5_init_9 (fun H locs hP hD hS => ?_)
  have hP : va_P G.1 vwCl [(a, .inr (3, [.ref (a + 1), .int 0])), ((a + 1), .inl (G.2 1, 120, .inl zR))] H := hP
  refine W_size fun hz0 => ?_
  have hz : H.size = (a + 2) := size_eq hs hz0 (hP 1 _ rfl).lt rfl
  exact W.vret hx hb hr (fun t ht hW => ⟨rfl, by rw [ht]; exact ⟨hz, hP⟩, hS.F ht⟩) hS.2.2 dX5_init_12

set_option maxHeartbeats 4000000 in
set_option maxRecDepth 100000 in
theorem c_X4_init (l : Launch) (G : GG) (a : Nat) : Met l yX4_init wsX4_init ({ frames := 2, cells := 8, slots := 400, locals := 43 }) (PcA G [.ref a] (fun H => H.size = a + 1 ∧ va_P G.1 vwCl [(a, .inr (2, [.null, .null, .null, .null, .null, .null, .null, .null, .int 0, .int 0, .long 0, .int 0, .int 0, .int 0]))] H)) (QM none (fun H => H.size = a + 9 ∧ Str G a st1 H) (frm a)) 8 400 (frm a) := by
  refine metC (cc := cX4_init) (maxL := 1) (by decide) rfl rfl ?_
  intro p e s m below meth cd hx hb hr hml hown hts hlocks hnm hPz hO hAO
  obtain ⟨hs, hP⟩ := hPz
  have hin : ∀ w ∈ u_ws RX4 TX4 14, w ∈ wsX4_init := by decide +kernel
  have hS : va_S (frm a) s.heap s.heap [] := va_S.rf
  have hl := lv_entry ([.ref a]) (n := 1) (Nat.le_of_ble_eq_true rfl)
  rw [lg_entry_eq]
  generalize (lg_sl ([.ref a]) ++ List.replicate (1 - (lg_sl ([.ref a])).length) Slot.unset).toArray = ls at hl ⊢
  have hl : lv_has ls 1 [(0, .ref a)] := hl
  refine lv_aload_n hx hb dX4_init_0 rfl (lv_at hl 0 rfl) ?_
  refine W.objInit hx hb hown (hts (.methodLink RX4 3 objectInit) (by decide +kernel)) (hts (.instanceMethod objectInit) (by decide +kernel)) (hts _ (List.mem_of_getElem? (i := 3) rfl)) rfl (by rw [hml]; exact hl.1) rfl dX4_init_1 (Nat.le_of_ble_eq_true rfl) (Nat.le_of_ble_eq_true rfl) ?_
  refine W.eq (g2 := F0 m 4 ls []) rfl ?_
  refine lv_aload_n hx hb dX4_init_4 rfl (lv_at hl 0 rfl) ?_
  refine lv_bipush (v := 80) hx hb dX4_init_5 (by decide) ?_
  have hz : s.heap.size = (a + 1) := hs
  refine newa_n (atype := .int) (a0 := (80, .inl zR)) hx hb (hts (.arrayClass .int) (by decide +kernel)) rfl hO 0 rfl hP hS rfl (by decide) rfl (Nat.le_of_ble_eq_true rfl) (Nat.le_of_ble_eq_true rfl) (Nat.le_of_ble_eq_true rfl) hz dX4_init_7 (fun H hP _ hS => ?_)
  have hP : va_P G.1 vwCl [(a, .inr (2, [.null, .null, .null, .null, .null, .null, .null, .null, .int 0, .int 0, .long 0, .int 0, .int 0, .int 0])), ((a + 1), .inl (G.2 0, 80, .inl zR))] H := hP
  refine va_putF (D := G.1) (ci := 2) (v := .ref (a + 1)) (ty := .array .int) (C := RX4) (T := TX4) (N := 14) hx hb hts hin tyX4 tyX4_ok nmX4 hown hO.1 hP (Adr.D (Adr.of (n := 2) rfl) (fun q h _ => h)) hS 0 rfl rfl 0 (by decide) (hts (.fieldLink RX4 9 "CurbCars$Street" "cells" "[I") (by decide +kernel)) (fun _ h9 => h9) rfl hnm rfl (by decide +kernel) rfl rfl (Nat.le_of_ble_eq_true rfl) dX4_init_9 (fun H locs hP hD hS => ?_)
  have hP : va_P G.1 vwCl [(a, .inr (2, [.ref (a + 1), .null, .null, .null, .null, .null, .null, .null, .int 0, .int 0, .long 0, .int 0, .int 0, .int 0])), ((a + 1), .inl (G.2 0, 80, .inl zR))] H := hP
  refine lv_aload_n hx hb dX4_init_12 rfl (lv_at hl 0 rfl) ?_
  refine lv_bipush (v := 80) hx hb dX4_init_13 (by decide) ?_
  refine W_size fun hz0 => ?_
  have hz : H.size = (a + 2) := size_eq hs hz0 (hP 1 _ rfl).lt rfl
  refine newa_n (atype := .int) (a0 := (80, .inl zR)) hx hb (hts (.arrayClass .int) (by decide +kernel)) rfl hO 0 rfl hP hS rfl (by decide) rfl (Nat.le_of_ble_eq_true rfl) (Nat.le_of_ble_eq_true rfl) (Nat.le_of_ble_eq_true rfl) hz dX4_init_15 (fun H hP _ hS => ?_)
  have hP : va_P G.1 vwCl [(a, .inr (2, [.ref (a + 1), .null, .null, .null, .null, .null, .null, .null, .int 0, .int 0, .long 0, .int 0, .int 0, .int 0])), ((a + 1), .inl (G.2 0, 80, .inl zR)), ((a + 2), .inl (G.2 0, 80, .inl zR))] H := hP
  refine va_putF (D := G.1) (ci := 2) (v := .ref (a + 2)) (ty := .array .int) (C := RX4) (T := TX4) (N := 14) hx hb hts hin tyX4 tyX4_ok nmX4 hown hO.1 hP (Adr.D (Adr.of (n := 3) rfl) (fun q h _ => h)) hS 0 rfl rfl 1 (by decide) (hts (.fieldLink RX4 15 "CurbCars$Street" "gapSizes" "[I") (by decide +kernel)) (fun _ h9 => h9) rfl hnm rfl (by decide +kernel) rfl rfl (Nat.le_of_ble_eq_true rfl) dX4_init_17 (fun H locs hP hD hS => ?_)
  have hP : va_P G.1 vwCl [(a, .inr (2, [.ref (a + 1), .ref (a + 2), .null, .null, .null, .null, .null, .null, .int 0, .int 0, .long 0, .int 0, .int 0, .int 0])), ((a + 1), .inl (G.2 0, 80, .inl zR)), ((a + 2), .inl (G.2 0, 80, .inl zR))] H := hP
  refine lv_aload_n hx hb dX4_init_20 rfl (lv_at hl 0 rfl) ?_
  refine lv_bipush (v := 40) hx hb dX4_init_21 (by decide) ?_
  refine W_size fun hz0 => ?_
  have hz : H.size = (a + 3) := size_eq hs hz0 (hP 2 _ rfl).lt rfl
  refine newa_n (atype := .int) (a0 := (40, .inl zR)) hx hb (hts (.arrayClass .int) (by decide +kernel)) rfl hO 0 rfl hP hS rfl (by decide) rfl (Nat.le_of_ble_eq_true rfl) (Nat.le_of_ble_eq_true rfl) (Nat.le_of_ble_eq_true rfl) hz dX4_init_23 (fun H hP _ hS => ?_)
  have hP : va_P G.1 vwCl [(a, .inr (2, [.ref (a + 1), .ref (a + 2), .null, .null, .null, .null, .null, .null, .int 0, .int 0, .long 0, .int 0, .int 0, .int 0])), ((a + 1), .inl (G.2 0, 80, .inl zR)), ((a + 2), .inl (G.2 0, 80, .inl zR)), ((a + 3), .inl (G.2 0, 40, .inl zR))] H := hP
  refine va_putF (D := G.1) (ci := 2) (v := .ref (a + 3)) (ty := .array .int) (C := RX4) (T := TX4) (N := 14) hx hb hts hin tyX4 tyX4_ok nmX4 hown hO.1 hP (Adr.D (Adr.of (n := 4) rfl) (fun q h _ => h)) hS 0 rfl rfl 2 (by decide) (hts (.fieldLink RX4 18 "CurbCars$Street" "lengths" "[I") (by decide +kernel)) (fun _ h9 => h9) rfl hnm rfl (by decide +kernel) rfl rfl (Nat.le_of_ble_eq_true rfl) dX4_init_25 (fun H locs hP hD hS => ?_)
  have hP : va_P G.1 vwCl [(a, .inr (2, [.ref (a + 1), .ref (a + 2), .ref (a + 3), .null, .null, .null, .null, .null, .int 0, .int 0, .long 0, .int 0, .int 0, .int 0])), ((a + 1), .inl (G.2 0, 80, .inl zR)), ((a + 2), .inl (G.2 0, 80, .inl zR)), ((a + 3), .inl (G.2 0, 40, .inl zR))] H := hP
  refine lv_aload_n hx hb dX4_init_28 rfl (lv_at hl 0 rfl) ?_
  refine lv_bipush (v := 40) hx hb dX4_init_29 (by decide) ?_
  refine W_size fun hz0 => ?_
  have hz : H.size = (a + 4) := size_eq hs hz0 (hP 3 _ rfl).lt rfl
  refine newa_n (atype := .int) (a0 := (40, .inl zR)) hx hb (hts (.arrayClass .int) (by decide +kernel)) rfl hO 0 rfl hP hS rfl (by decide) rfl (Nat.le_of_ble_eq_true rfl) (Nat.le_of_ble_eq_true rfl) (Nat.le_of_ble_eq_true rfl) hz dX4_init_31 (fun H hP _ hS => ?_)
  have hP : va_P G.1 vwCl [(a, .inr (2, [.ref (a + 1), .ref (a + 2), .ref (a + 3), .null, .null, .null, .null, .null, .int 0, .int 0, .long 0, .int 0, .int 0, .int 0])), ((a + 1), .inl (G.2 0, 80, .inl zR)), ((a + 2), .inl (G.2 0, 80, .inl zR)), ((a + 3), .inl (G.2 0, 40, .inl zR)), ((a + 4), .inl (G.2 0, 40, .inl zR))] H := hP
  refine va_putF (D := G.1) (ci := 2) (v := .ref (a + 4)) (ty := .array .int) (C := RX4) (T := TX4) (N := 14) hx hb hts hin tyX4 tyX4_ok nmX4 hown hO.1 hP (Adr.D (Adr.of (n := 5) rfl) (fun q h _ => h)) hS 0 rfl rfl 3 (by decide) (hts (.fieldLink RX4 21 "CurbCars$Street" "stays" "[I") (by decide +kernel)) (fun _ h9 => h9) rfl hnm rfl (by decide +kernel) rfl rfl (Nat.le_of_ble_eq_true rfl) dX4_init_33 (fun H locs hP hD hS => ?_)
  have hP : va_P G.1 vwCl [(a, .inr (2, [.ref (a + 1), .ref (a + 2), .ref (a + 3), .ref (a + 4), .null, .null, .null, .null, .int 0, .int 0, .long 0, .int 0, .int 0, .int 0])), ((a + 1), .inl (G.2 0, 80, .inl zR)), ((a + 2), .inl (G.2 0, 80, .inl zR)), ((a + 3), .inl (G.2 0, 40, .inl zR)), ((a + 4), .inl (G.2 0, 40, .inl zR))] H := hP
  refine lv_aload_n hx hb dX4_init_36 rfl (lv_at hl 0 rfl) ?_
  refine lv_bipush (v := 40) hx hb dX4_init_37 (by decide) ?_
  refine W_size fun hz0 => ?_
  have hz : H.size = (a + 5) := size_eq hs hz0 (hP 4 _ rfl).lt rfl
  refine newa_n (atype := .int) (a0 := (40, .inl zR)) hx hb (hts (.arrayClass .int) (by decide +kernel)) rfl hO 0 rfl hP hS rfl (by decide) rfl (Nat.le_of_ble_eq_true rfl) (Nat.le_of_ble_eq_true rfl) (Nat.le_of_ble_eq_true rfl) hz dX4_init_39 (fun H hP _ hS => ?_)
  have hP : va_P G.1 vwCl [(a, .inr (2, [.ref (a + 1), .ref (a + 2), .ref (a + 3), .ref (a + 4), .null, .null, .null, .null, .int 0, .int 0, .long 0, .int 0, .int 0, .int 0])), ((a + 1), .inl (G.2 0, 80, .inl zR)), ((a + 2), .inl (G.2 0, 80, .inl zR)), ((a + 3), .inl (G.2 0, 40, .inl zR)), ((a + 4), .inl (G.2 0, 40, .inl zR)), ((a + 5), .inl (G.2 0, 40, .inl zR))] H := hP
  refine va_putF (D := G.1) (ci := 2) (v := .ref (a + 5)) (ty := .array .int) (C := RX4) (T := TX4) (N := 14) hx hb hts hin tyX4 tyX4_ok nmX4 hown hO.1 hP (Adr.D (Adr.of (n := 6) rfl) (fun q h _ => h)) hS 0 rfl rfl 4 (by decide) (hts (.fieldLink RX4 24 "CurbCars$Street" "states" "[I") (by decide +kernel)) (fun _ h9 => h9) rfl hnm rfl (by decide +kernel) rfl rfl (Nat.le_of_ble_eq_true rfl) dX4_init_41 (fun H locs hP hD hS => ?_)
  have hP : va_P G.1 vwCl [(a, .inr (2, [.ref (a + 1), .ref (a + 2), .ref (a + 3), .ref (a + 4), .ref (a + 5), .null, .null, .null, .int 0, .int 0, .long 0, .int 0, .int 0, .int 0])), ((a + 1), .inl (G.2 0, 80, .inl zR)), ((a + 2), .inl (G.2 0, 80, .inl zR)), ((a + 3), .inl (G.2 0, 40, .inl zR)), ((a + 4), .inl (G.2 0, 40, .inl zR)), ((a + 5), .inl (G.2 0, 40, .inl zR))] H := hP
  refine lv_aload_n hx hb dX4_init_44 rfl (lv_at hl 0 rfl) ?_
  refine lv_bipush (v := 40) hx hb dX4_init_45 (by decide) ?_
  refine W_size fun hz0 => ?_
  have hz : H.size = (a + 6) := size_eq hs hz0 (hP 5 _ rfl).lt rfl
  refine newa_n (atype := .int) (a0 := (40, .inl zR)) hx hb (hts (.arrayClass .int) (by decide +kernel)) rfl hO 0 rfl hP hS rfl (by decide) rfl (Nat.le_of_ble_eq_true rfl) (Nat.le_of_ble_eq_true rfl) (Nat.le_of_ble_eq_true rfl) hz dX4_init_47 (fun H hP _ hS => ?_)
  have hP : va_P G.1 vwCl [(a, .inr (2, [.ref (a + 1), .ref (a + 2), .ref (a + 3), .ref (a + 4), .ref (a + 5), .null, .null, .null, .int 0, .int 0, .long 0, .int 0, .int 0, .int 0])), ((a + 1), .inl (G.2 0, 80, .inl zR)), ((a + 2), .inl (G.2 0, 80, .inl zR)), ((a + 3), .inl (G.2 0, 40, .inl zR)), ((a + 4), .inl (G.2 0, 40, .inl zR)), ((a + 5), .inl (G.2 0, 40, .inl zR)), ((a + 6), .inl (G.2 0, 40, .inl zR))] H := hP
  refine va_putF (D := G.1) (ci := 2) (v := .ref (a + 6)) (ty := .array .int) (C := RX4) (T := TX4) (N := 14) hx hb hts hin tyX4 tyX4_ok nmX4 hown hO.1 hP (Adr.D (Adr.of (n := 7) rfl) (fun q h _ => h)) hS 0 rfl rfl 5 (by decide) (hts (.fieldLink RX4 27 "CurbCars$Street" "places" "[I") (by decide +kernel)) (fun _ h9 => h9) rfl hnm rfl (by decide +kernel) rfl rfl (Nat.le_of_ble_eq_true rfl) dX4_init_49 (fun H locs hP hD hS => ?_)
  have hP : va_P G.1 vwCl [(a, .inr (2, [.ref (a + 1), .ref (a + 2), .ref (a + 3), .ref (a + 4), .ref (a + 5), .ref (a + 6), .null, .null, .int 0, .int 0, .long 0, .int 0, .int 0, .int 0])), ((a + 1), .inl (G.2 0, 80, .inl zR)), ((a + 2), .inl (G.2 0, 80, .inl zR)), ((a + 3), .inl (G.2 0, 40, .inl zR)), ((a + 4), .inl (G.2 0, 40, .inl zR)), ((a + 5), .inl (G.2 0, 40, .inl zR)), ((a + 6), .inl (G.2 0, 40, .inl zR))] H := hP
  refine lv_aload_n hx hb dX4_init_52 rfl (lv_at hl 0 rfl) ?_
  refine lv_bipush (v := 40) hx hb dX4_init_53 (by decide) ?_
  refine W_size fun hz0 => ?_
  have hz : H.size = (a + 7) := size_eq hs hz0 (hP 6 _ rfl).lt rfl
  refine newa_n (atype := .int) (a0 := (40, .inl zR)) hx hb (hts (.arrayClass .int) (by decide +kernel)) rfl hO 0 rfl hP hS rfl (by decide) rfl (Nat.le_of_ble_eq_true rfl) (Nat.le_of_ble_eq_true rfl) (Nat.le_of_ble_eq_true rfl) hz dX4_init_55 (fun H hP _ hS => ?_)
  have hP : va_P G.1 vwCl [(a, .inr (2, [.ref (a + 1), .ref (a + 2), .ref (a + 3), .ref (a + 4), .ref (a + 5), .ref (a + 6), .null, .null, .int 0, .int 0, .long 0, .int 0, .int 0, .int 0])), ((a + 1), .inl (G.2 0, 80, .inl zR)), ((a + 2), .inl (G.2 0, 80, .inl zR)), ((a + 3), .inl (G.2 0, 40, .inl zR)), ((a + 4), .inl (G.2 0, 40, .inl zR)), ((a + 5), .inl (G.2 0, 40, .inl zR)), ((a + 6), .inl (G.2 0, 40, .inl zR)), ((a + 7), .inl (G.2 0, 40, .inl zR))] H := hP
  refine va_putF (D := G.1) (ci := 2) (v := .ref (a + 7)) (ty := .array .int) (C := RX4) (T := TX4) (N := 14) hx hb hts hin tyX4 tyX4_ok nmX4 hown hO.1 hP (Adr.D (Adr.of (n := 8) rfl) (fun q h _ => h)) hS 0 rfl rfl 6 (by decide) (hts (.fieldLink RX4 30 "CurbCars$Street" "parkedMinutes" "[I") (by decide +kernel)) (fun _ h9 => h9) rfl hnm rfl (by decide +kernel) rfl rfl (Nat.le_of_ble_eq_true rfl) dX4_init_57 (fun H locs hP hD hS => ?_)
  have hP : va_P G.1 vwCl [(a, .inr (2, [.ref (a + 1), .ref (a + 2), .ref (a + 3), .ref (a + 4), .ref (a + 5), .ref (a + 6), .ref (a + 7), .null, .int 0, .int 0, .long 0, .int 0, .int 0, .int 0])), ((a + 1), .inl (G.2 0, 80, .inl zR)), ((a + 2), .inl (G.2 0, 80, .inl zR)), ((a + 3), .inl (G.2 0, 40, .inl zR)), ((a + 4), .inl (G.2 0, 40, .inl zR)), ((a + 5), .inl (G.2 0, 40, .inl zR)), ((a + 6), .inl (G.2 0, 40, .inl zR)), ((a + 7), .inl (G.2 0, 40, .inl zR))] H := hP
  refine lv_aload_n hx hb dX4_init_60 rfl (lv_at hl 0 rfl) ?_
  refine lv_bipush (v := 40) hx hb dX4_init_61 (by decide) ?_
  refine W_size fun hz0 => ?_
  have hz : H.size = (a + 8) := size_eq hs hz0 (hP 7 _ rfl).lt rfl
  refine newa_n (atype := .int) (a0 := (40, .inl zR)) hx hb (hts (.arrayClass .int) (by decide +kernel)) rfl hO 0 rfl hP hS rfl (by decide) rfl (Nat.le_of_ble_eq_true rfl) (Nat.le_of_ble_eq_true rfl) (Nat.le_of_ble_eq_true rfl) hz dX4_init_63 (fun H hP _ hS => ?_)
  have hP : va_P G.1 vwCl [(a, .inr (2, [.ref (a + 1), .ref (a + 2), .ref (a + 3), .ref (a + 4), .ref (a + 5), .ref (a + 6), .ref (a + 7), .null, .int 0, .int 0, .long 0, .int 0, .int 0, .int 0])), ((a + 1), .inl (G.2 0, 80, .inl zR)), ((a + 2), .inl (G.2 0, 80, .inl zR)), ((a + 3), .inl (G.2 0, 40, .inl zR)), ((a + 4), .inl (G.2 0, 40, .inl zR)), ((a + 5), .inl (G.2 0, 40, .inl zR)), ((a + 6), .inl (G.2 0, 40, .inl zR)), ((a + 7), .inl (G.2 0, 40, .inl zR)), ((a + 8), .inl (G.2 0, 40, .inl zR))] H := hP
  refine va_putF (D := G.1) (ci := 2) (v := .ref (a + 8)) (ty := .array .int) (C := RX4) (T := TX4) (N := 14) hx hb hts hin tyX4 tyX4_ok nmX4 hown hO.1 hP (Adr.D (Adr.of (n := 9) rfl) (fun q h _ => h)) hS 0 rfl rfl 7 (by decide) (hts (.fieldLink RX4 33 "CurbCars$Street" "roundMinutes" "[I") (by decide +kernel)) (fun _ h9 => h9) rfl hnm rfl (by decide +kernel) rfl rfl (Nat.le_of_ble_eq_true rfl) dX4_init_65 (fun H locs hP hD hS => ?_)
  have hP : va_P G.1 vwCl [(a, .inr (2, [.ref (a + 1), .ref (a + 2), .ref (a + 3), .ref (a + 4), .ref (a + 5), .ref (a + 6), .ref (a + 7), .ref (a + 8), .int 0, .int 0, .long 0, .int 0, .int 0, .int 0])), ((a + 1), .inl (G.2 0, 80, .inl zR)), ((a + 2), .inl (G.2 0, 80, .inl zR)), ((a + 3), .inl (G.2 0, 40, .inl zR)), ((a + 4), .inl (G.2 0, 40, .inl zR)), ((a + 5), .inl (G.2 0, 40, .inl zR)), ((a + 6), .inl (G.2 0, 40, .inl zR)), ((a + 7), .inl (G.2 0, 40, .inl zR)), ((a + 8), .inl (G.2 0, 40, .inl zR))] H := hP
  refine lv_aload_n hx hb dX4_init_68 rfl (lv_at hl 0 rfl) ?_
  have hP : Str G a stZ H := hP
  refine cl_mv (rV (As := []) (rest := []) ⟨hx, hb, hml, hown, hts⟩ (c_X4_makeNew l G a stZ) (cwV 0 hts gX4_init_X4_makeNew rfl rfl rfl (by decide +kernel) ⟨Nat.le_of_ble_eq_true rfl, Nat.le_of_ble_eq_true rfl⟩) (st_recv hO hP) hP hO rfl hl.1 (Nat.le_of_ble_eq_true rfl) dX4_init_69 ⟨Nat.le_of_ble_eq_true rfl, Nat.le_of_ble_eq_true rfl⟩) hS (fun q h => h.1) (fun H locs hP _ hk hS => ?_)
  have hP : Str G a st1 H := hP
  refine W_size fun hz0 => ?_
  have hz : H.size = (a + 9) := size_eq hs hz0 (hP 8 _ rfl).lt rfl
  exact W.vret hx hb hr (fun t ht hW => ⟨rfl, by rw [ht]; exact ⟨hz, hP⟩, hS.F ht⟩) hS.2.2 dX4_init_72
