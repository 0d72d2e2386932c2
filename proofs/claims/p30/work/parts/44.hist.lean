/-! the remembered states and the save slots -/
abbrev Hi : Type := (Nat → St) × Nat × Nat
def qF (D : Hi) : Nat → St := D.1
def qO (D : Hi) : Nat := D.2.1
def qK (D : Hi) : Nat := D.2.2
abbrev hsI (G : GG) (a : Nat) (D : Hi) (i : Nat) : va_W := (a, .inr (0, [.ref (a + 1), .int (nI (qO D)), .int (nI (qK D))])) :: (a + 1, .inl (G.2 3, 14, .inr (.inr (.inr (.inr (rk (a + 2) i)))))) :: pool G (a + 2) (qF D) i
abbrev hsW (G : GG) (a : Nat) (D : Hi) : va_W := hsI G a D 14
theorem hsI_adr (G : GG) (a : Nat) (D : Hi) (i : Nat) : Adr a (hsI G a D i) :=
  (Adr.one (a := a) (e := .inr (0, [.ref (a + 1), .int (nI (qO D)), .int (nI (qK D))]))).app ((Adr.one (a := a + 1) (e := .inl (G.2 3, 14, .inr (.inr (.inr (.inr (rk (a + 2) i))))))).app (pool_adr G (a + 2) (qF D) i) rfl) rfl
theorem hs_adr (G : GG) (a : Nat) (D : Hi) : Adr a (hsW G a D) := hsI_adr G a D 14
theorem hsI_len (G : GG) (a : Nat) (D : Hi) (i : Nat) : (hsI G a D i).length = 2 + 9 * i := by
  show (pool G (a + 2) (qF D) i).length + 1 + 1 = _
  rw [pool_len]
  omega
theorem hs_len (G : GG) (a : Nat) (D : Hi) : (hsW G a D).length = 128 := hsI_len G a D 14
theorem hsI_0 (G : GG) (a : Nat) (D : Hi) : hsI G a D 0 = [(a, .inr (0, [.ref (a + 1), .int (nI (qO D)), .int (nI (qK D))])), (a + 1, .inl (G.2 3, 14, .inr (.inr (.inr (.inr (fun _ => none))))))] := by
  show ([_, (a + 1, .inl (G.2 3, 14, .inr (.inr (.inr (.inr (rk (a + 2) 0))))))] : va_W) = _
  rw [rk_0]
abbrev Sl : Type := (Nat → St) × Rw
def vF (D : Sl) : Nat → St := D.1
def vB (D : Sl) : Rw := D.2
abbrev svI (G : GG) (a : Nat) (D : Sl) (i : Nat) : va_W := (a, .inr (1, [.ref (a + 1), .ref (a + 2)])) :: (a + 1, .inl (G.2 3, 2, .inr (.inr (.inr (.inr (rk (a + 3) i)))))) :: (a + 2, .inl (G.2 2, 2, .inl (vB D))) :: pool G (a + 3) (vF D) i
abbrev svW (G : GG) (a : Nat) (D : Sl) : va_W := svI G a D 2
theorem svI_adr (G : GG) (a : Nat) (D : Sl) (i : Nat) : Adr a (svI G a D i) :=
  (Adr.one (a := a) (e := .inr (1, [.ref (a + 1), .ref (a + 2)]))).app ((Adr.one (a := a + 1) (e := .inl (G.2 3, 2, .inr (.inr (.inr (.inr (rk (a + 3) i))))))).app ((Adr.one (a := a + 2) (e := .inl (G.2 2, 2, .inl (vB D)))).app (pool_adr G (a + 3) (vF D) i) rfl) rfl) rfl
theorem sv_adr (G : GG) (a : Nat) (D : Sl) : Adr a (svW G a D) := svI_adr G a D 2
theorem svI_len (G : GG) (a : Nat) (D : Sl) (i : Nat) : (svI G a D i).length = 3 + 9 * i := by
  show (pool G (a + 3) (vF D) i).length + 1 + 1 + 1 = _
  rw [pool_len]
  omega
theorem sv_len (G : GG) (a : Nat) (D : Sl) : (svW G a D).length = 21 := svI_len G a D 2
theorem svI_0 (G : GG) (a : Nat) (D : Sl) : svI G a D 0 = [(a, .inr (1, [.ref (a + 1), .ref (a + 2)])), (a + 1, .inl (G.2 3, 2, .inr (.inr (.inr (.inr (fun _ => none)))))), (a + 2, .inl (G.2 2, 2, .inl (vB D)))] := by
  show ([_, (a + 1, .inl (G.2 3, 2, .inr (.inr (.inr (.inr (rk (a + 3) 0)))))), _] : va_W) = _
  rw [rk_0]
theorem pool_at (G : GG) (a x : Nat) (f : Nat → St) (S : St) (i : Nat) : (pool G a f i ++ stW G x S)[9 * i]? = some (x, .inr (2, [.ref (x + 1), .ref (x + 2), .ref (x + 3), .ref (x + 4), .ref (x + 5), .ref (x + 6), .ref (x + 7), .ref (x + 8), .int (sN S), .int (sM S), .long (sH S), .int (sU S), .int (sO S), .int (sE S)])) := by
  rw [List.getElem?_append_right (by rw [pool_len]; exact Nat.le_refl _), pool_len, Nat.sub_self]
  rfl

theorem pool_low {G : GG} {a : Nat} {f : Nat → St} {i : Nat} {H : Heap} {e : va_E} {b : Nat} (h0 : va_P G.1 vwCl [(b, e)] H) (hb : b + 1 = a) (hP : va_P G.1 vwCl (pool G a f i) H) : a + 9 * i ≤ H.size := by
  match i with
  | 0 =>
    have h8 : b < H.size := (h0 0 _ rfl).lt
    omega
  | i + 1 =>
    have h8 : a + 9 * i + 8 < H.size := ((P_app.mp hP).2 8 _ rfl).lt
    omega
theorem hi_low {G : GG} {a : Nat} {D : Hi} {i : Nat} {H : Heap} (hP : va_P G.1 vwCl (hsI G a D i) H) : a + 2 + 9 * i ≤ H.size :=
  pool_low (b := a + 1) (P_app (w1 := [_]).mp (P_app (w1 := [_]).mp hP).2).1 rfl (P_app (w1 := [_]).mp (P_app (w1 := [_]).mp hP).2).2
theorem sv_low {G : GG} {a : Nat} {D : Sl} {i : Nat} {H : Heap} (hP : va_P G.1 vwCl (svI G a D i) H) : a + 3 + 9 * i ≤ H.size :=
  pool_low (b := a + 2) (P_app (w1 := [_]).mp (P_app (w1 := [_]).mp (P_app (w1 := [_]).mp hP).2).2).1 rfl (P_app (w1 := [_]).mp (P_app (w1 := [_]).mp (P_app (w1 := [_]).mp hP).2).2).2

set_option maxHeartbeats 4000000 in
set_option maxRecDepth 100000 in
theorem c_X0_init (l : Launch) (G : GG) (a : Nat) : Met l yX0_init wsX0_init ({ frames := 3, cells := 127, slots := 5810, locals := 63 }) (PcA G [.ref a] (fun H => H.size = a + 1 ∧ va_P G.1 vwCl [(a, .inr (0, [.null, .int 0, .int 0]))] H)) (QM none (fun H => H.size = a + 128 ∧ va_P G.1 vwCl (hsW G a (fun _ => st1, 0, 0)) H) (frm a)) 127 5810 (frm a) := by
  refine metC (cc := cX0_init) (maxL := 2) (by decide) rfl rfl ?_
  intro p e s m below meth cd hx hb hr hml hown hts hlocks hnm hPz hO hAO
  obtain ⟨hs, hP⟩ := hPz
  have hin : ∀ w ∈ u_ws RX0 TX0 3, w ∈ wsX0_init := by decide +kernel
  have loop : ∀ (n i : Nat), i + n = 15 → i ≤ 14 → ∀ (H : Heap) (locs : List Loc) (ls : Array Slot), va_P G.1 vwCl (hsI G a (fun _ => st1, 0, 0) i) H → va_S (frm a) s.heap H locs → lv_has ls 2 [(1, .int (nI i)), (0, .ref a)] → W p l e (headSpec wsX0_init ({ frames := 3, cells := 127, slots := 5810, locals := 63 } : Room)).room s m ([.ref a] : List Value).toArray below meth cd H locs (1 + 9 * i) (14 + 414 * i) (MQ below (QM none (fun H => H.size = a + 128 ∧ va_P G.1 vwCl (hsW G a (fun _ => st1, 0, 0)) H) (frm a)) ([.ref a] : List Value).toArray s 127 5810 (frm a)) (F0 m 15 ls []) := by
    intro n
    induction n with
    | zero =>
      intro i hi hi2
      omega
    | succ n ih =>
      intro i hi hi2 H locs ls hP hS hl
      refine lv_iload_n hx hb dX0_init_15 rfl (lv_at hl 0 rfl) ?_
      refine lv_aload_n hx hb dX0_init_16 rfl (lv_at hl 1 rfl) ?_
      refine va_get (D := G.1) (ci := 0) (v := .ref (a + 1)) (C := RX0) (T := TX0) (N := 3) hx hb hts hin hown hO.1 hP 0 rfl rfl 0 (by decide) (hts (.fieldLink RX0 11 "CurbCars$History" "kept" "[LCurbCars$Street;") (by decide +kernel)) (fun _ h9 => h9) rfl dX0_init_17 ?_
      refine va_alen (ty := .object "CurbCars$Street") (v := 14) hx hb hO.1 hP 1 3 rfl rfl rfl dX0_init_20 ?_
      refine lv_icmp_ge (tgt := 43) hx hb dX0_init_21 (by decide) (fun c1 => ?_) (fun c1 => ?_)
      · have e : i = 14 := by
          have := (nI_leI (a := 14) (by omega) (by omega)).mp c1
          omega
        subst e
        refine W_size fun hz0 => ?_
        have hz : H.size = a + 128 := by
          have h8 : a + 127 < H.size := (hP 127 _ rfl).lt
          omega
        exact W.vret hx hb hr (fun t ht hW => ⟨rfl, by rw [ht]; exact ⟨hz, hP⟩, hS.F ht⟩) hS.2.2 dX0_init_43
      · have hlt : i < 14 := by
          have h9 : ¬ 14 ≤ i := fun z => c1 ((nI_leI (a := 14) (by omega) (by omega)).mpr z)
          omega
        refine lv_aload_n hx hb dX0_init_24 rfl (lv_at hl 1 rfl) ?_
        refine va_get (D := G.1) (ci := 0) (v := .ref (a + 1)) (C := RX0) (T := TX0) (N := 3) hx hb hts hin hown hO.1 hP 0 rfl rfl 0 (by decide) (hts (.fieldLink RX0 11 "CurbCars$History" "kept" "[LCurbCars$Street;") (by decide +kernel)) (fun _ h9 => h9) rfl dX0_init_25 ?_
        refine lv_iload_n hx hb dX0_init_28 rfl (lv_at hl 0 rfl) ?_
        refine W_size fun hz0 => ?_
        have hz : H.size = (a + 2 + 9 * i) := by
          have h8 := hi_low hP
          omega
        refine new_n (ci := 2) (fs := [.null, .null, .null, .null, .null, .null, .null, .null, .int 0, .int 0, .long 0, .int 0, .int 0, .int 0]) (C := RX4) (T := TX4) (N := 14) hx hb hts (by decide +kernel) tyX4 tyX4_ok hown (hts (.classLink RX0 9 RX4) (by decide +kernel)) (hts (.instantiable RX4 14) (by decide +kernel)) (hts (.initialized RX4) (by decide +kernel)) hO.1 hP hS rfl (fun j hj => by rcases (show j = 0 ∨ j = 1 ∨ j = 2 ∨ j = 3 ∨ j = 4 ∨ j = 5 ∨ j = 6 ∨ j = 7 ∨ j = 8 ∨ j = 9 ∨ j = 10 ∨ j = 11 ∨ j = 12 ∨ j = 13 by omega) with rfl | rfl | rfl | rfl | rfl | rfl | rfl | rfl | rfl | rfl | rfl | rfl | rfl | rfl <;> rfl) (by show 1 + 9 * i + 1 ≤ 127; omega) (by show 14 + 414 * i + 14 ≤ 5810; omega) hz dX0_init_29 (fun H hP hz hS => ?_)
        refine lv_dup hx hb dX0_init_32 rfl ?_
        refine cl_cv (rIN (As := []) (rest := [.ref (a + 2 + 9 * i), .int (nI i), .ref (a + 1)]) ⟨hx, hb, hml, hown, hts⟩ (c_X4_init l G (a + 2 + 9 * i)) ⟨va_cnB 0 hts gX0_init_X4_init_n17 rfl rfl rfl (hO.2 _ (List.mem_of_getElem? (i := 16) rfl)) (hts (.initialized RX4) (by decide +kernel)) (by decide +kernel) ⟨Nat.le_of_ble_eq_true rfl, Nat.le_of_ble_eq_true rfl⟩, rfl, hts (.instanceMethod yX4_init) (by decide +kernel)⟩ ⟨hz, (P_app.mp hP).2⟩ hO hAO rfl hl.1 (Nat.le_of_ble_eq_true rfl) dX0_init_33 ⟨by show 1 + 9 * i + 1 + 8 ≤ 127; omega, by show 14 + 414 * i + 14 + 400 ≤ 5810; omega⟩) hS (fun q h => Nat.le_trans (by omega) h) (fun H1 locs hP1 _ hk hS => ?_)
        have hP := P_out (a := a) (P_app.mp hP).1 (hsI_adr G a (fun _ => st1, 0, 0) i) hk (fun q h1 h2 h3 => by
          have h4 := hsI_len G a (fun _ => st1, 0, 0) i
          rw [h4] at h2
          have h5 : (a + 2 + 9 * i) ≤ q := h3
          omega)
        have hP : va_P G.1 vwCl (hsI G a (fun _ => st1, 0, 0) i ++ stW G (a + 2 + 9 * i) st1) H1 := P_app.mpr ⟨hP, hP1.2⟩
        refine va_astq (qk := 9 * i + 2) (ci := 2) (r := (RX4, TX4, 14)) hx hb hO.1 hP (Adr.D ((hsI_adr G a (fun _ => st1, 0, 0) i).app (st_adr G (a + 2 + 9 * i) st1) (by rw [hsI_len]; omega)) (fun q h _ => h)) hS 1 3 rfl rfl (pool_at G (a + 2) (a + 2 + 9 * i) (fun _ => st1) st1 i) rfl (vp_in_nI hlt (by omega)) dX0_init_36 (fun H locs hP hD hS => ?_)
        rw [nI_clamp (by omega), rk_up] at hP
        have hP : va_P G.1 vwCl (hsI G a (fun _ => st1, 0, 0) (i + 1)) H := hP
        refine lv_iinc (v := nI (i + 1)) (lv' := [(1, .int (nI (i + 1))), (0, .ref a)]) hx hb dX0_init_37 hl (k := 0) rfl (nI_1 _) (by decide) rfl (fun ls hl => ?_)
        refine lv_goto (tgt := 15) hx hb dX0_init_40 (by decide) ?_
        exact W.widen (by omega) (by omega) (ih (i + 1) (by omega) (by omega) H locs ls hP hS hl)
  have hS : va_S (frm a) s.heap s.heap [] := va_S.rf
  have hl := lv_entry ([.ref a]) (n := 2) (Nat.le_of_ble_eq_true rfl)
  rw [lg_entry_eq]
  generalize (lg_sl ([.ref a]) ++ List.replicate (2 - (lg_sl ([.ref a])).length) Slot.unset).toArray = ls at hl ⊢
  have hl : lv_has ls 2 [(0, .ref a)] := hl
  refine lv_aload_n hx hb dX0_init_0 rfl (lv_at hl 0 rfl) ?_
  refine W.objInit hx hb hown (hts (.methodLink RX0 3 objectInit) (by decide +kernel)) (hts (.instanceMethod objectInit) (by decide +kernel)) (hts _ (List.mem_of_getElem? (i := 3) rfl)) rfl (by rw [hml]; exact hl.1) rfl dX0_init_1 (Nat.le_of_ble_eq_true rfl) (Nat.le_of_ble_eq_true rfl) ?_
  refine W.eq (g2 := F0 m 4 ls []) rfl ?_
  refine lv_aload_n hx hb dX0_init_4 rfl (lv_at hl 0 rfl) ?_
  refine lv_bipush (v := 14) hx hb dX0_init_5 (by decide) ?_
  have hz : s.heap.size = (a + 1) := hs
  refine newq_n (C := RX4) hx hb hown (hts (.classLink RX0 9 RX4) (by decide +kernel)) hAO hO 3 rfl hP hS (by decide) rfl (Nat.le_of_ble_eq_true rfl) (Nat.le_of_ble_eq_true rfl) (Nat.le_of_ble_eq_true rfl) hz dX0_init_7 (fun H hP _ hS => ?_)
  have hP : va_P G.1 vwCl [(a, .inr (0, [.null, .int 0, .int 0])), ((a + 1), .inl (G.2 3, 14, .inr (.inr (.inr (.inr (fun _ => none))))))] H := hP
  refine va_putF (D := G.1) (ci := 0) (v := .ref (a + 1)) (ty := .array (.object "CurbCars$Street")) (C := RX0) (T := TX0) (N := 3) hx hb hts hin tyX0 tyX0_ok nmX0 hown hO.1 hP (Adr.D (Adr.of (n := 2) rfl) (fun q h _ => h)) hS 0 rfl rfl 0 (by decide) (hts (.fieldLink RX0 11 "CurbCars$History" "kept" "[LCurbCars$Street;") (by decide +kernel)) (fun _ h9 => h9) rfl hnm rfl (by decide +kernel) rfl rfl (Nat.le_of_ble_eq_true rfl) dX0_init_10 (fun H locs hP hD hS => ?_)
  have hP : va_P G.1 vwCl [(a, .inr (0, [.ref (a + 1), .int 0, .int 0])), ((a + 1), .inl (G.2 3, 14, .inr (.inr (.inr (.inr (fun _ => none))))))] H := hP
  refine lv_iconst (v := 0) hx hb dX0_init_13 (by decide) ?_
  refine lv_istore_n (lv' := [(1, .int (nI 0)), (0, .ref a)]) hx hb dX0_init_14 rfl hl (by decide) rfl (fun ls hl => ?_)
  have hP : va_P G.1 vwCl (hsI G a (fun _ => st1, 0, 0) 0) H := by rw [hsI_0]; exact hP
  exact loop 15 0 rfl (by omega) H _ ls hP hS hl

set_option maxHeartbeats 4000000 in
set_option maxRecDepth 100000 in
theorem c_X1_init (l : Launch) (G : GG) (a : Nat) : Met l yX1_init wsX1_init ({ frames := 3, cells := 20, slots := 832, locals := 63 }) (PcA G [.ref a] (fun H => H.size = a + 1 ∧ va_P G.1 vwCl [(a, .inr (1, [.null, .null]))] H)) (QM none (fun H => H.size = a + 21 ∧ va_P G.1 vwCl (svW G a (fun _ => st1, zR)) H) (frm a)) 20 832 (frm a) := by
  refine metC (cc := cX1_init) (maxL := 2) (by decide) rfl rfl ?_
  intro p e s m below meth cd hx hb hr hml hown hts hlocks hnm hPz hO hAO
  obtain ⟨hs, hP⟩ := hPz
  have hin : ∀ w ∈ u_ws RX1 TX1 2, w ∈ wsX1_init := by decide +kernel
  have loop : ∀ (n i : Nat), i + n = 3 → i ≤ 2 → ∀ (H : Heap) (locs : List Loc) (ls : Array Slot), va_P G.1 vwCl (svI G a (fun _ => st1, zR) i) H → va_S (frm a) s.heap H locs → lv_has ls 2 [(1, .int (nI i)), (0, .ref a)] → W p l e (headSpec wsX1_init ({ frames := 3, cells := 20, slots := 832, locals := 63 } : Room)).room s m ([.ref a] : List Value).toArray below meth cd H locs (2 + 9 * i) (4 + 414 * i) (MQ below (QM none (fun H => H.size = a + 21 ∧ va_P G.1 vwCl (svW G a (fun _ => st1, zR)) H) (frm a)) ([.ref a] : List Value).toArray s 20 832 (frm a)) (F0 m 21 ls []) := by
    intro n
    induction n with
    | zero =>
      intro i hi hi2
      omega
    | succ n ih =>
      intro i hi hi2 H locs ls hP hS hl
      refine lv_iload_n hx hb dX1_init_21 rfl (lv_at hl 0 rfl) ?_
      refine lv_aload_n hx hb dX1_init_22 rfl (lv_at hl 1 rfl) ?_
      refine va_get (D := G.1) (ci := 1) (v := .ref (a + 1)) (C := RX1) (T := TX1) (N := 2) hx hb hts hin hown hO.1 hP 0 rfl rfl 0 (by decide) (hts (.fieldLink RX1 11 "CurbCars$SaveSlots" "kept" "[LCurbCars$Street;") (by decide +kernel)) (fun _ h9 => h9) rfl dX1_init_23 ?_
      refine va_alen (ty := .object "CurbCars$Street") (v := 2) hx hb hO.1 hP 1 3 rfl rfl rfl dX1_init_26 ?_
      refine lv_icmp_ge (tgt := 49) hx hb dX1_init_27 (by decide) (fun c1 => ?_) (fun c1 => ?_)
      · have e : i = 2 := by
          have := (nI_leI (a := 2) (by omega) (by omega)).mp c1
          omega
        subst e
        refine W_size fun hz0 => ?_
        have hz : H.size = a + 21 := by
          have h8 : a + 20 < H.size := (hP 20 _ rfl).lt
          omega
        exact W.vret hx hb hr (fun t ht hW => ⟨rfl, by rw [ht]; exact ⟨hz, hP⟩, hS.F ht⟩) hS.2.2 dX1_init_49
      · have hlt : i < 2 := by
          have h9 : ¬ 2 ≤ i := fun z => c1 ((nI_leI (a := 2) (by omega) (by omega)).mpr z)
          omega
        refine lv_aload_n hx hb dX1_init_30 rfl (lv_at hl 1 rfl) ?_
        refine va_get (D := G.1) (ci := 1) (v := .ref (a + 1)) (C := RX1) (T := TX1) (N := 2) hx hb hts hin hown hO.1 hP 0 rfl rfl 0 (by decide) (hts (.fieldLink RX1 11 "CurbCars$SaveSlots" "kept" "[LCurbCars$Street;") (by decide +kernel)) (fun _ h9 => h9) rfl dX1_init_31 ?_
        refine lv_iload_n hx hb dX1_init_34 rfl (lv_at hl 0 rfl) ?_
        refine W_size fun hz0 => ?_
        have hz : H.size = (a + 3 + 9 * i) := by
          have h8 := sv_low hP
          omega
        refine new_n (ci := 2) (fs := [.null, .null, .null, .null, .null, .null, .null, .null, .int 0, .int 0, .long 0, .int 0, .int 0, .int 0]) (C := RX4) (T := TX4) (N := 14) hx hb hts (by decide +kernel) tyX4 tyX4_ok hown (hts (.classLink RX1 9 RX4) (by decide +kernel)) (hts (.instantiable RX4 14) (by decide +kernel)) (hts (.initialized RX4) (by decide +kernel)) hO.1 hP hS rfl (fun j hj => by rcases (show j = 0 ∨ j = 1 ∨ j = 2 ∨ j = 3 ∨ j = 4 ∨ j = 5 ∨ j = 6 ∨ j = 7 ∨ j = 8 ∨ j = 9 ∨ j = 10 ∨ j = 11 ∨ j = 12 ∨ j = 13 by omega) with rfl | rfl | rfl | rfl | rfl | rfl | rfl | rfl | rfl | rfl | rfl | rfl | rfl | rfl <;> rfl) (by show 2 + 9 * i + 1 ≤ 20; omega) (by show 4 + 414 * i + 14 ≤ 832; omega) hz dX1_init_35 (fun H hP hz hS => ?_)
        refine lv_dup hx hb dX1_init_38 rfl ?_
        refine cl_cv (rIN (As := []) (rest := [.ref (a + 3 + 9 * i), .int (nI i), .ref (a + 1)]) ⟨hx, hb, hml, hown, hts⟩ (c_X4_init l G (a + 3 + 9 * i)) ⟨va_cnB 0 hts gX1_init_X4_init_n21 rfl rfl rfl (hO.2 _ (List.mem_of_getElem? (i := 18) rfl)) (hts (.initialized RX4) (by decide +kernel)) (by decide +kernel) ⟨Nat.le_of_ble_eq_true rfl, Nat.le_of_ble_eq_true rfl⟩, rfl, hts (.instanceMethod yX4_init) (by decide +kernel)⟩ ⟨hz, (P_app.mp hP).2⟩ hO hAO rfl hl.1 (Nat.le_of_ble_eq_true rfl) dX1_init_39 ⟨by show 2 + 9 * i + 1 + 8 ≤ 20; omega, by show 4 + 414 * i + 14 + 400 ≤ 832; omega⟩) hS (fun q h => Nat.le_trans (by omega) h) (fun H1 locs hP1 _ hk hS => ?_)
        have hP := P_out (a := a) (P_app.mp hP).1 (svI_adr G a (fun _ => st1, zR) i) hk (fun q h1 h2 h3 => by
          have h4 := svI_len G a (fun _ => st1, zR) i
          rw [h4] at h2
          have h5 : (a + 3 + 9 * i) ≤ q := h3
          omega)
        have hP : va_P G.1 vwCl (svI G a (fun _ => st1, zR) i ++ stW G (a + 3 + 9 * i) st1) H1 := P_app.mpr ⟨hP, hP1.2⟩
        refine va_astq (qk := 9 * i + 3) (ci := 2) (r := (RX4, TX4, 14)) hx hb hO.1 hP (Adr.D ((svI_adr G a (fun _ => st1, zR) i).app (st_adr G (a + 3 + 9 * i) st1) (by rw [svI_len]; omega)) (fun q h _ => h)) hS 1 3 rfl rfl (pool_at G (a + 3) (a + 3 + 9 * i) (fun _ => st1) st1 i) rfl (vp_in_nI hlt (by omega)) dX1_init_42 (fun H locs hP hD hS => ?_)
        rw [nI_clamp (by omega), rk_up] at hP
        have hP : va_P G.1 vwCl (svI G a (fun _ => st1, zR) (i + 1)) H := hP
        refine lv_iinc (v := nI (i + 1)) (lv' := [(1, .int (nI (i + 1))), (0, .ref a)]) hx hb dX1_init_43 hl (k := 0) rfl (nI_1 _) (by decide) rfl (fun ls hl => ?_)
        refine lv_goto (tgt := 21) hx hb dX1_init_46 (by decide) ?_
        exact W.widen (by omega) (by omega) (ih (i + 1) (by omega) (by omega) H locs ls hP hS hl)
  have hS : va_S (frm a) s.heap s.heap [] := va_S.rf
  have hl := lv_entry ([.ref a]) (n := 2) (Nat.le_of_ble_eq_true rfl)
  rw [lg_entry_eq]
  generalize (lg_sl ([.ref a]) ++ List.replicate (2 - (lg_sl ([.ref a])).length) Slot.unset).toArray = ls at hl ⊢
  have hl : lv_has ls 2 [(0, .ref a)] := hl
  refine lv_aload_n hx hb dX1_init_0 rfl (lv_at hl 0 rfl) ?_
  refine W.objInit hx hb hown (hts (.methodLink RX1 3 objectInit) (by decide +kernel)) (hts (.instanceMethod objectInit) (by decide +kernel)) (hts _ (List.mem_of_getElem? (i := 3) rfl)) rfl (by rw [hml]; exact hl.1) rfl dX1_init_1 (Nat.le_of_ble_eq_true rfl) (Nat.le_of_ble_eq_true rfl) ?_
  refine W.eq (g2 := F0 m 4 ls []) rfl ?_
  refine lv_aload_n hx hb dX1_init_4 rfl (lv_at hl 0 rfl) ?_
  refine lv_iconst (v := 2) hx hb dX1_init_5 (by decide) ?_
  have hz : s.heap.size = (a + 1) := hs
  refine newq_n (C := RX4) hx hb hown (hts (.classLink RX1 9 RX4) (by decide +kernel)) hAO hO 3 rfl hP hS (by decide) rfl (Nat.le_of_ble_eq_true rfl) (Nat.le_of_ble_eq_true rfl) (Nat.le_of_ble_eq_true rfl) hz dX1_init_6 (fun H hP _ hS => ?_)
  have hP : va_P G.1 vwCl [(a, .inr (1, [.null, .null])), ((a + 1), .inl (G.2 3, 2, .inr (.inr (.inr (.inr (fun _ => none))))))] H := hP
  refine va_putF (D := G.1) (ci := 1) (v := .ref (a + 1)) (ty := .array (.object "CurbCars$Street")) (C := RX1) (T := TX1) (N := 2) hx hb hts hin tyX1 tyX1_ok nmX1 hown hO.1 hP (Adr.D (Adr.of (n := 2) rfl) (fun q h _ => h)) hS 0 rfl rfl 0 (by decide) (hts (.fieldLink RX1 11 "CurbCars$SaveSlots" "kept" "[LCurbCars$Street;") (by decide +kernel)) (fun _ h9 => h9) rfl hnm rfl (by decide +kernel) rfl rfl (Nat.le_of_ble_eq_true rfl) dX1_init_9 (fun H locs hP hD hS => ?_)
  have hP : va_P G.1 vwCl [(a, .inr (1, [.ref (a + 1), .null])), ((a + 1), .inl (G.2 3, 2, .inr (.inr (.inr (.inr (fun _ => none))))))] H := hP
  refine lv_aload_n hx hb dX1_init_12 rfl (lv_at hl 0 rfl) ?_
  refine lv_iconst (v := 2) hx hb dX1_init_13 (by decide) ?_
  refine W_size fun hz0 => ?_
  have hz : H.size = (a + 2) := size_eq hs hz0 (hP 1 _ rfl).lt rfl
  refine newa_n (atype := .boolean) (a0 := (2, .inl zR)) hx hb (hts (.arrayClass .boolean) (by decide +kernel)) rfl hO 2 rfl hP hS rfl (by decide) rfl (Nat.le_of_ble_eq_true rfl) (Nat.le_of_ble_eq_true rfl) (Nat.le_of_ble_eq_true rfl) hz dX1_init_14 (fun H hP _ hS => ?_)
  have hP : va_P G.1 vwCl [(a, .inr (1, [.ref (a + 1), .null])), ((a + 1), .inl (G.2 3, 2, .inr (.inr (.inr (.inr (fun _ => none)))))), ((a + 2), .inl (G.2 2, 2, .inl zR))] H := hP
  refine va_putF (D := G.1) (ci := 1) (v := .ref (a + 2)) (ty := .array .boolean) (C := RX1) (T := TX1) (N := 2) hx hb hts hin tyX1 tyX1_ok nmX1 hown hO.1 hP (Adr.D (Adr.of (n := 3) rfl) (fun q h _ => h)) hS 0 rfl rfl 1 (by decide) (hts (.fieldLink RX1 17 "CurbCars$SaveSlots" "filled" "[Z") (by decide +kernel)) (fun _ h9 => h9) rfl hnm rfl (by decide +kernel) rfl rfl (Nat.le_of_ble_eq_true rfl) dX1_init_16 (fun H locs hP hD hS => ?_)
  have hP : va_P G.1 vwCl [(a, .inr (1, [.ref (a + 1), .ref (a + 2)])), ((a + 1), .inl (G.2 3, 2, .inr (.inr (.inr (.inr (fun _ => none)))))), ((a + 2), .inl (G.2 2, 2, .inl zR))] H := hP
  refine lv_iconst (v := 0) hx hb dX1_init_19 (by decide) ?_
  refine lv_istore_n (lv' := [(1, .int (nI 0)), (0, .ref a)]) hx hb dX1_init_20 rfl hl (by decide) rfl (fun ls hl => ?_)
  have hP : va_P G.1 vwCl (svI G a (fun _ => st1, zR) 0) H := by rw [svI_0]; exact hP
  exact loop 3 0 rfl (by omega) H _ ls hP hS hl
