theorem Thr.w {A : Nat → Prop} {s : State} {args : Array Value} (h : Thr A s) : ∀ w ∈ thrL, w.before args s = true := fun w hw =>
  va_Nw.use (by
    have := List.all_eq_true.mp thrL_ok w hw
    cases w <;> first | rfl | exact absurd this (by simp [isThr])) (h.1 w hw)

def f_X6_requireLength (len : Int32) : Int32 :=
  if (f_X6_isLength len) = 0 then 0 else
  1
set_option maxHeartbeats 4000000 in
set_option maxRecDepth 100000 in
theorem c_X6_requireLength_n (l : Launch) (G : GG) (len : Int32) (hq : ¬ f_X6_requireLength len = 0) : Met l yX6_requireLength wsX6_requireLength ({ frames := 8, cells := 0, slots := 0, locals := 120 }) (PcH G [.int len] (fun _ => True)) (QP none) 0 0 noA := by
  refine metH (cc := cX6_requireLength) (maxL := 1) (ret := none) (by decide) rfl ?_
  intro p e s m below meth cd hx hb hr hml hown hts hlocks hP hO
  have hS : va_S noA s.heap s.heap [] := va_S.rf
  have hl := lv_entry ([.int len]) (n := 1) (Nat.le_of_ble_eq_true rfl)
  rw [lg_entry_eq]
  generalize (lg_sl ([.int len]) ++ List.replicate (1 - (lg_sl ([.int len])).length) Slot.unset).toArray = ls at hl ⊢
  have hl : lv_has ls 1 [(0, .int len)] := hl
  refine lv_iload_n hx hb dX6_requireLength_0 rfl (lv_at hl 0 rfl) ?_
  refine cl_pi (rS (As := [.int len]) (rest := []) ⟨hx, hb, hml, hown, hts⟩ (c_X6_isLength l G len) (va_cwS 1 hts gX6_requireLength_X6_isLength rfl rfl rfl (by decide +kernel) ⟨Nat.le_of_ble_eq_true rfl, Nat.le_of_ble_eq_true rfl⟩) trivial hO rfl hl.1 (Nat.le_of_ble_eq_true rfl) dX6_requireLength_1 ⟨Nat.le_of_ble_eq_true rfl, Nat.le_of_ble_eq_true rfl⟩) ?_
  refine lv_if_ne (tgt := 18) hx hb dX6_requireLength_4 (by decide) (fun c_1 => ?_) (fun c_1 => ?_)
  · exact W.vret hx hb hr (fun t ht hW => ⟨rfl, ht⟩) hS.2.2 dX6_requireLength_18
  · have hE : f_X6_requireLength len = 0 := (by rw [f_X6_requireLength, if_pos c_1])
    exact absurd hE hq

set_option maxHeartbeats 4000000 in
set_option maxRecDepth 100000 in
theorem c_X6_requireLength_t (l : Launch) (G : GG) (A : Nat → Prop) (len : Int32) (hst : l.stackTraces = false) (hq : f_X6_requireLength len = 0) : vx_Met l yX6_requireLength wsX6_requireLength ({ frames := 8, cells := 1, slots := 6, locals := 120 }) (PcT G A [.int len] (fun _ => True)) QNo (XT "java/lang/IllegalArgumentException") 1 6 A := by
  refine metX (cc := cX6_requireLength) (maxL := 1) (ret := none) (by decide) rfl ?_
  intro p e s m below meth cd hx hb hr hml hown hts hlocks hno hP hO hTh
  have hS : va_S A s.heap s.heap [] := va_S.rf
  have hl := lv_entry ([.int len]) (n := 1) (Nat.le_of_ble_eq_true rfl)
  rw [lg_entry_eq]
  generalize (lg_sl ([.int len]) ++ List.replicate (1 - (lg_sl ([.int len])).length) Slot.unset).toArray = ls at hl ⊢
  have hl : lv_has ls 1 [(0, .int len)] := hl
  refine lv_iload_n hx hb dX6_requireLength_0 rfl (lv_at hl 0 rfl) ?_
  refine cl_pi (rS (As := [.int len]) (rest := []) ⟨hx, hb, hml, hown, hts⟩ (c_X6_isLength l G len) (va_cwS 1 hts gX6_requireLength_X6_isLength rfl rfl rfl (by decide +kernel) ⟨Nat.le_of_ble_eq_true rfl, Nat.le_of_ble_eq_true rfl⟩) trivial hO rfl hl.1 (Nat.le_of_ble_eq_true rfl) dX6_requireLength_1 ⟨Nat.le_of_ble_eq_true rfl, Nat.le_of_ble_eq_true rfl⟩) ?_
  refine lv_if_ne (tgt := 18) hx hb dX6_requireLength_4 (by decide) (fun c_1 => ?_) (fun c_1 => ?_)
  · have hE : f_X6_requireLength len = 1 := (by rw [f_X6_requireLength, if_neg c_1])
    exact absurd (hE.symm.trans hq) (by decide)
  · have hE : f_X6_requireLength len = 0 := (by rw [f_X6_requireLength, if_pos c_1])
    obtain ⟨sa, hsa⟩ := hTh.2.2.2 13 _ rfl
    exact vx_throwSW (names := ["java/lang/RuntimeException", "java/lang/Exception"]) (sa := sa) hx hb hst hown (by decide +kernel) (by decide +kernel) (hts (.classLink RX6 40 "java/lang/IllegalArgumentException") (by decide +kernel)) (hts (.initialized "java/lang/IllegalArgumentException") (by decide +kernel)) hsa (vx_hat (fun w h => hts w (List.mem_cons_of_mem _ (List.mem_append_right _ h))) thr_sub44 hTh.w) thr_good44 hTh.2.1 hTh.2.2.1 hS (by rw [hml]; exact hl.1) dX6_requireLength_7 dX6_requireLength_10 dX6_requireLength_11 dX6_requireLength_14 dX6_requireLength_17 (fun x hx => (hno x hx).elim) (Nat.le_of_ble_eq_true rfl) (Nat.le_of_ble_eq_true rfl) (Nat.le_of_ble_eq_true rfl) (Nat.le_of_ble_eq_true rfl) hlocks (fun t _ h1 h2 => ⟨rfl, h1, fun q hq _ => h2 q hq⟩) hS.2.2 (Nat.le_of_ble_eq_true rfl) (Nat.le_of_ble_eq_true rfl)

def f_X6_requireCell (x : Int32) : Int32 :=
  if (f_X6_isCell x) = 0 then 0 else
  1
set_option maxHeartbeats 4000000 in
set_option maxRecDepth 100000 in
theorem c_X6_requireCell_n (l : Launch) (G : GG) (x : Int32) (hq : ¬ f_X6_requireCell x = 0) : Met l yX6_requireCell wsX6_requireCell ({ frames := 8, cells := 0, slots := 0, locals := 120 }) (PcH G [.int x] (fun _ => True)) (QP none) 0 0 noA := by
  refine metH (cc := cX6_requireCell) (maxL := 1) (ret := none) (by decide) rfl ?_
  intro p e s m below meth cd hx hb hr hml hown hts hlocks hP hO
  have hS : va_S noA s.heap s.heap [] := va_S.rf
  have hl := lv_entry ([.int x]) (n := 1) (Nat.le_of_ble_eq_true rfl)
  rw [lg_entry_eq]
  generalize (lg_sl ([.int x]) ++ List.replicate (1 - (lg_sl ([.int x])).length) Slot.unset).toArray = ls at hl ⊢
  have hl : lv_has ls 1 [(0, .int x)] := hl
  refine lv_iload_n hx hb dX6_requireCell_0 rfl (lv_at hl 0 rfl) ?_
  refine cl_pi (rS (As := [.int x]) (rest := []) ⟨hx, hb, hml, hown, hts⟩ (c_X6_isCell l G x) (va_cwS 1 hts gX6_requireCell_X6_isCell rfl rfl rfl (by decide +kernel) ⟨Nat.le_of_ble_eq_true rfl, Nat.le_of_ble_eq_true rfl⟩) trivial hO rfl hl.1 (Nat.le_of_ble_eq_true rfl) dX6_requireCell_1 ⟨Nat.le_of_ble_eq_true rfl, Nat.le_of_ble_eq_true rfl⟩) ?_
  refine lv_if_ne (tgt := 18) hx hb dX6_requireCell_4 (by decide) (fun c_1 => ?_) (fun c_1 => ?_)
  · exact W.vret hx hb hr (fun t ht hW => ⟨rfl, ht⟩) hS.2.2 dX6_requireCell_18
  · have hE : f_X6_requireCell x = 0 := (by rw [f_X6_requireCell, if_pos c_1])
    exact absurd hE hq

set_option maxHeartbeats 4000000 in
set_option maxRecDepth 100000 in
theorem c_X6_requireCell_t (l : Launch) (G : GG) (A : Nat → Prop) (x : Int32) (hst : l.stackTraces = false) (hq : f_X6_requireCell x = 0) : vx_Met l yX6_requireCell wsX6_requireCell ({ frames := 8, cells := 1, slots := 6, locals := 120 }) (PcT G A [.int x] (fun _ => True)) QNo (XT "java/lang/IndexOutOfBoundsException") 1 6 A := by
  refine metX (cc := cX6_requireCell) (maxL := 1) (ret := none) (by decide) rfl ?_
  intro p e s m below meth cd hx hb hr hml hown hts hlocks hno hP hO hTh
  have hS : va_S A s.heap s.heap [] := va_S.rf
  have hl := lv_entry ([.int x]) (n := 1) (Nat.le_of_ble_eq_true rfl)
  rw [lg_entry_eq]
  generalize (lg_sl ([.int x]) ++ List.replicate (1 - (lg_sl ([.int x])).length) Slot.unset).toArray = ls at hl ⊢
  have hl : lv_has ls 1 [(0, .int x)] := hl
  refine lv_iload_n hx hb dX6_requireCell_0 rfl (lv_at hl 0 rfl) ?_
  refine cl_pi (rS (As := [.int x]) (rest := []) ⟨hx, hb, hml, hown, hts⟩ (c_X6_isCell l G x) (va_cwS 1 hts gX6_requireCell_X6_isCell rfl rfl rfl (by decide +kernel) ⟨Nat.le_of_ble_eq_true rfl, Nat.le_of_ble_eq_true rfl⟩) trivial hO rfl hl.1 (Nat.le_of_ble_eq_true rfl) dX6_requireCell_1 ⟨Nat.le_of_ble_eq_true rfl, Nat.le_of_ble_eq_true rfl⟩) ?_
  refine lv_if_ne (tgt := 18) hx hb dX6_requireCell_4 (by decide) (fun c_1 => ?_) (fun c_1 => ?_)
  · have hE : f_X6_requireCell x = 1 := (by rw [f_X6_requireCell, if_neg c_1])
    exact absurd (hE.symm.trans hq) (by decide)
  · have hE : f_X6_requireCell x = 0 := (by rw [f_X6_requireCell, if_pos c_1])
    obtain ⟨sa, hsa⟩ := hTh.2.2.2 12 _ rfl
    exact vx_throwSW (names := ["java/lang/RuntimeException", "java/lang/Exception"]) (sa := sa) hx hb hst hown (by decide +kernel) (by decide +kernel) (hts (.classLink RX6 157 "java/lang/IndexOutOfBoundsException") (by decide +kernel)) (hts (.initialized "java/lang/IndexOutOfBoundsException") (by decide +kernel)) hsa (vx_hat (fun w h => hts w (List.mem_cons_of_mem _ (List.mem_append_right _ h))) thr_sub161 hTh.w) thr_good161 hTh.2.1 hTh.2.2.1 hS (by rw [hml]; exact hl.1) dX6_requireCell_7 dX6_requireCell_10 dX6_requireCell_11 dX6_requireCell_14 dX6_requireCell_17 (fun x hx => (hno x hx).elim) (Nat.le_of_ble_eq_true rfl) (Nat.le_of_ble_eq_true rfl) (Nat.le_of_ble_eq_true rfl) (Nat.le_of_ble_eq_true rfl) hlocks (fun t _ h1 h2 => ⟨rfl, h1, fun q hq _ => h2 q hq⟩) hS.2.2 (Nat.le_of_ble_eq_true rfl) (Nat.le_of_ble_eq_true rfl)

def f_X6_requireZeroOrOne (x : Int32) : Int32 :=
  if x = 0 then 1 else
  if x = 1 then 1 else
  0
set_option maxHeartbeats 4000000 in
set_option maxRecDepth 100000 in
theorem c_X6_requireZeroOrOne_n (l : Launch) (G : GG) (x : Int32) (hq : ¬ f_X6_requireZeroOrOne x = 0) : Met l yX6_requireZeroOrOne wsX6_requireZeroOrOne ({ frames := 8, cells := 0, slots := 0, locals := 120 }) (PcH G [.int x] (fun _ => True)) (QP none) 0 0 noA := by
  refine metH (cc := cX6_requireZeroOrOne) (maxL := 1) (ret := none) (by decide) rfl ?_
  intro p e s m below meth cd hx hb hr hml hown hts hlocks hP hO
  have hS : va_S noA s.heap s.heap [] := va_S.rf
  have hl := lv_entry ([.int x]) (n := 1) (Nat.le_of_ble_eq_true rfl)
  rw [lg_entry_eq]
  generalize (lg_sl ([.int x]) ++ List.replicate (1 - (lg_sl ([.int x])).length) Slot.unset).toArray = ls at hl ⊢
  have hl : lv_has ls 1 [(0, .int x)] := hl
  refine lv_iload_n hx hb dX6_requireZeroOrOne_0 rfl (lv_at hl 0 rfl) ?_
  refine lv_if_eq (tgt := 20) hx hb dX6_requireZeroOrOne_1 (by decide) (fun c_1 => ?_) (fun c_1 => ?_)
  · exact W.vret hx hb hr (fun t ht hW => ⟨rfl, ht⟩) hS.2.2 dX6_requireZeroOrOne_20
  · refine lv_iload_n hx hb dX6_requireZeroOrOne_4 rfl (lv_at hl 0 rfl) ?_
    refine lv_iconst (v := 1) hx hb dX6_requireZeroOrOne_5 (by decide) ?_
    refine lv_icmp_eq (tgt := 20) hx hb dX6_requireZeroOrOne_6 (by decide) (fun c_2 => ?_) (fun c_2 => ?_)
    · exact W.vret hx hb hr (fun t ht hW => ⟨rfl, ht⟩) hS.2.2 dX6_requireZeroOrOne_20
    · have hE : f_X6_requireZeroOrOne x = 0 := (by rw [f_X6_requireZeroOrOne, if_neg c_1, if_neg c_2])
      exact absurd hE hq

set_option maxHeartbeats 4000000 in
set_option maxRecDepth 100000 in
theorem c_X6_requireZeroOrOne_t (l : Launch) (G : GG) (A : Nat → Prop) (x : Int32) (hst : l.stackTraces = false) (hq : f_X6_requireZeroOrOne x = 0) : vx_Met l yX6_requireZeroOrOne wsX6_requireZeroOrOne ({ frames := 8, cells := 1, slots := 6, locals := 120 }) (PcT G A [.int x] (fun _ => True)) QNo (XT "java/lang/IllegalArgumentException") 1 6 A := by
  refine metX (cc := cX6_requireZeroOrOne) (maxL := 1) (ret := none) (by decide) rfl ?_
  intro p e s m below meth cd hx hb hr hml hown hts hlocks hno hP hO hTh
  have hS : va_S A s.heap s.heap [] := va_S.rf
  have hl := lv_entry ([.int x]) (n := 1) (Nat.le_of_ble_eq_true rfl)
  rw [lg_entry_eq]
  generalize (lg_sl ([.int x]) ++ List.replicate (1 - (lg_sl ([.int x])).length) Slot.unset).toArray = ls at hl ⊢
  have hl : lv_has ls 1 [(0, .int x)] := hl
  refine lv_iload_n hx hb dX6_requireZeroOrOne_0 rfl (lv_at hl 0 rfl) ?_
  refine lv_if_eq (tgt := 20) hx hb dX6_requireZeroOrOne_1 (by decide) (fun c_1 => ?_) (fun c_1 => ?_)
  · have hE : f_X6_requireZeroOrOne x = 1 := (by rw [f_X6_requireZeroOrOne, if_pos c_1])
    exact absurd (hE.symm.trans hq) (by decide)
  · refine lv_iload_n hx hb dX6_requireZeroOrOne_4 rfl (lv_at hl 0 rfl) ?_
    refine lv_iconst (v := 1) hx hb dX6_requireZeroOrOne_5 (by decide) ?_
    refine lv_icmp_eq (tgt := 20) hx hb dX6_requireZeroOrOne_6 (by decide) (fun c_2 => ?_) (fun c_2 => ?_)
    · have hE : f_X6_requireZeroOrOne x = 1 := (by rw [f_X6_requireZeroOrOne, if_neg c_1, if_pos c_2])
      exact absurd (hE.symm.trans hq) (by decide)
    · have hE : f_X6_requireZeroOrOne x = 0 := (by rw [f_X6_requireZeroOrOne, if_neg c_1, if_neg c_2])
      obtain ⟨sa, hsa⟩ := hTh.2.2.2 16 _ rfl
      exact vx_throwSW (names := ["java/lang/RuntimeException", "java/lang/Exception"]) (sa := sa) hx hb hst hown (by decide +kernel) (by decide +kernel) (hts (.classLink RX6 40 "java/lang/IllegalArgumentException") (by decide +kernel)) (hts (.initialized "java/lang/IllegalArgumentException") (by decide +kernel)) hsa (vx_hat (fun w h => hts w (List.mem_cons_of_mem _ (List.mem_append_right _ h))) thr_sub44 hTh.w) thr_good44 hTh.2.1 hTh.2.2.1 hS (by rw [hml]; exact hl.1) dX6_requireZeroOrOne_9 dX6_requireZeroOrOne_12 dX6_requireZeroOrOne_13 dX6_requireZeroOrOne_16 dX6_requireZeroOrOne_19 (fun x hx => (hno x hx).elim) (Nat.le_of_ble_eq_true rfl) (Nat.le_of_ble_eq_true rfl) (Nat.le_of_ble_eq_true rfl) (Nat.le_of_ble_eq_true rfl) hlocks (fun t _ h1 h2 => ⟨rfl, h1, fun q hq _ => h2 q hq⟩) hS.2.2 (Nat.le_of_ble_eq_true rfl) (Nat.le_of_ble_eq_true rfl)

def f_X6_requireSlot (x : Int32) : Int32 :=
  if x < 0 then 0 else
  if x < 2 then 1 else
  0
set_option maxHeartbeats 4000000 in
set_option maxRecDepth 100000 in
theorem c_X6_requireSlot_n (l : Launch) (G : GG) (x : Int32) (hq : ¬ f_X6_requireSlot x = 0) : Met l yX6_requireSlot wsX6_requireSlot ({ frames := 8, cells := 0, slots := 0, locals := 120 }) (PcH G [.int x] (fun _ => True)) (QP none) 0 0 noA := by
  refine metH (cc := cX6_requireSlot) (maxL := 1) (ret := none) (by decide) rfl ?_
  intro p e s m below meth cd hx hb hr hml hown hts hlocks hP hO
  have hS : va_S noA s.heap s.heap [] := va_S.rf
  have hl := lv_entry ([.int x]) (n := 1) (Nat.le_of_ble_eq_true rfl)
  rw [lg_entry_eq]
  generalize (lg_sl ([.int x]) ++ List.replicate (1 - (lg_sl ([.int x])).length) Slot.unset).toArray = ls at hl ⊢
  have hl : lv_has ls 1 [(0, .int x)] := hl
  refine lv_iload_n hx hb dX6_requireSlot_0 rfl (lv_at hl 0 rfl) ?_
  refine lv_if_lt (tgt := 9) hx hb dX6_requireSlot_1 (by decide) (fun c_1 => ?_) (fun c_1 => ?_)
  · have hE : f_X6_requireSlot x = 0 := (by rw [f_X6_requireSlot, if_pos c_1])
    exact absurd hE hq
  · refine lv_iload_n hx hb dX6_requireSlot_4 rfl (lv_at hl 0 rfl) ?_
    refine lv_iconst (v := 2) hx hb dX6_requireSlot_5 (by decide) ?_
    refine lv_icmp_lt (tgt := 20) hx hb dX6_requireSlot_6 (by decide) (fun c_2 => ?_) (fun c_2 => ?_)
    · exact W.vret hx hb hr (fun t ht hW => ⟨rfl, ht⟩) hS.2.2 dX6_requireSlot_20
    · have hE : f_X6_requireSlot x = 0 := (by rw [f_X6_requireSlot, if_neg c_1, if_neg c_2])
      exact absurd hE hq

set_option maxHeartbeats 4000000 in
set_option maxRecDepth 100000 in
theorem c_X6_requireSlot_t (l : Launch) (G : GG) (A : Nat → Prop) (x : Int32) (hst : l.stackTraces = false) (hq : f_X6_requireSlot x = 0) : vx_Met l yX6_requireSlot wsX6_requireSlot ({ frames := 8, cells := 1, slots := 6, locals := 120 }) (PcT G A [.int x] (fun _ => True)) QNo (XT "java/lang/IndexOutOfBoundsException") 1 6 A := by
  refine metX (cc := cX6_requireSlot) (maxL := 1) (ret := none) (by decide) rfl ?_
  intro p e s m below meth cd hx hb hr hml hown hts hlocks hno hP hO hTh
  have hS : va_S A s.heap s.heap [] := va_S.rf
  have hl := lv_entry ([.int x]) (n := 1) (Nat.le_of_ble_eq_true rfl)
  rw [lg_entry_eq]
  generalize (lg_sl ([.int x]) ++ List.replicate (1 - (lg_sl ([.int x])).length) Slot.unset).toArray = ls at hl ⊢
  have hl : lv_has ls 1 [(0, .int x)] := hl
  refine lv_iload_n hx hb dX6_requireSlot_0 rfl (lv_at hl 0 rfl) ?_
  refine lv_if_lt (tgt := 9) hx hb dX6_requireSlot_1 (by decide) (fun c_1 => ?_) (fun c_1 => ?_)
  · have hE : f_X6_requireSlot x = 0 := (by rw [f_X6_requireSlot, if_pos c_1])
    obtain ⟨sa, hsa⟩ := hTh.2.2.2 15 _ rfl
    exact vx_throwSW (names := ["java/lang/RuntimeException", "java/lang/Exception"]) (sa := sa) hx hb hst hown (by decide +kernel) (by decide +kernel) (hts (.classLink RX6 157 "java/lang/IndexOutOfBoundsException") (by decide +kernel)) (hts (.initialized "java/lang/IndexOutOfBoundsException") (by decide +kernel)) hsa (vx_hat (fun w h => hts w (List.mem_cons_of_mem _ (List.mem_append_right _ h))) thr_sub161 hTh.w) thr_good161 hTh.2.1 hTh.2.2.1 hS (by rw [hml]; exact hl.1) dX6_requireSlot_9 dX6_requireSlot_12 dX6_requireSlot_13 dX6_requireSlot_16 dX6_requireSlot_19 (fun x hx => (hno x hx).elim) (Nat.le_of_ble_eq_true rfl) (Nat.le_of_ble_eq_true rfl) (Nat.le_of_ble_eq_true rfl) (Nat.le_of_ble_eq_true rfl) hlocks (fun t _ h1 h2 => ⟨rfl, h1, fun q hq _ => h2 q hq⟩) hS.2.2 (Nat.le_of_ble_eq_true rfl) (Nat.le_of_ble_eq_true rfl)
  · refine lv_iload_n hx hb dX6_requireSlot_4 rfl (lv_at hl 0 rfl) ?_
    refine lv_iconst (v := 2) hx hb dX6_requireSlot_5 (by decide) ?_
    refine lv_icmp_lt (tgt := 20) hx hb dX6_requireSlot_6 (by decide) (fun c_2 => ?_) (fun c_2 => ?_)
    · have hE : f_X6_requireSlot x = 1 := (by rw [f_X6_requireSlot, if_neg c_1, if_pos c_2])
      exact absurd (hE.symm.trans hq) (by decide)
    · have hE : f_X6_requireSlot x = 0 := (by rw [f_X6_requireSlot, if_neg c_1, if_neg c_2])
      obtain ⟨sa, hsa⟩ := hTh.2.2.2 15 _ rfl
      exact vx_throwSW (names := ["java/lang/RuntimeException", "java/lang/Exception"]) (sa := sa) hx hb hst hown (by decide +kernel) (by decide +kernel) (hts (.classLink RX6 157 "java/lang/IndexOutOfBoundsException") (by decide +kernel)) (hts (.initialized "java/lang/IndexOutOfBoundsException") (by decide +kernel)) hsa (vx_hat (fun w h => hts w (List.mem_cons_of_mem _ (List.mem_append_right _ h))) thr_sub161 hTh.w) thr_good161 hTh.2.1 hTh.2.2.1 hS (by rw [hml]; exact hl.1) dX6_requireSlot_9 dX6_requireSlot_12 dX6_requireSlot_13 dX6_requireSlot_16 dX6_requireSlot_19 (fun x hx => (hno x hx).elim) (Nat.le_of_ble_eq_true rfl) (Nat.le_of_ble_eq_true rfl) (Nat.le_of_ble_eq_true rfl) (Nat.le_of_ble_eq_true rfl) hlocks (fun t _ h1 h2 => ⟨rfl, h1, fun q hq _ => h2 q hq⟩) hS.2.2 (Nat.le_of_ble_eq_true rfl) (Nat.le_of_ble_eq_true rfl)

def f_X6_requireCar (X : Cx) (c : Int32) : Int32 :=
  if (f_X4_isCar (xN X) c) = 0 then 0 else
  1
set_option maxHeartbeats 4000000 in
set_option maxRecDepth 100000 in
theorem c_X6_requireCar_n (l : Launch) (G : GG) (b : Nat) (X : Cx) (c : Int32) (hq : ¬ f_X6_requireCar X c = 0) : Met l yX6_requireCar wsX6_requireCar ({ frames := 8, cells := 0, slots := 0, locals := 120 }) (PcH G [.ref b, .int c] (Cb G b X)) (QP none) 0 0 noA := by
  refine metH (cc := cX6_requireCar) (maxL := 2) (ret := none) (by decide) rfl ?_
  intro p e s m below meth cd hx hb hr hml hown hts hlocks hP hO
  have hin6 : ∀ w ∈ u_ws RX6 TX6 5, w ∈ wsX6_requireCar := by decide +kernel
  have hf_19 := hts (.fieldLink RX6 19 "CurbCars" "now" "LCurbCars$Street;") (by decide +kernel)
  have hS : va_S noA s.heap s.heap [] := va_S.rf
  have hl := lv_entry ([.ref b, .int c]) (n := 2) (Nat.le_of_ble_eq_true rfl)
  rw [lg_entry_eq]
  generalize (lg_sl ([.ref b, .int c]) ++ List.replicate (2 - (lg_sl ([.ref b, .int c])).length) Slot.unset).toArray = ls at hl ⊢
  have hl : lv_has ls 2 [(0, .ref b), (1, .int c)] := hl
  refine lv_aload_n hx hb dX6_requireCar_0 rfl (lv_at hl 0 rfl) ?_
  refine va_get (D := G.1) (ci := 4) (v := .ref (b + 3)) (C := RX6) (T := TX6) (N := 5) hx hb hts hin6 hown hO.1 hP.1 0 rfl rfl 1 (by decide) hf_19 (fun _ h9 => h9) rfl dX6_requireCar_1 ?_
  refine lv_iload_n hx hb dX6_requireCar_4 rfl (lv_at hl 1 rfl) ?_
  refine cl_pi (rVN (As := [.int c]) (rest := []) ⟨hx, hb, hml, hown, hts⟩ (c_X4_isCar l G (b + 3) (xN X) c) ⟨va_cnB 1 hts gX6_requireCar_X4_isCar_n310 rfl rfl rfl (hO.2 _ (List.mem_of_getElem? (i := 47) rfl)) (hts (.initialized RX4) (by decide +kernel)) (by decide +kernel) ⟨Nat.le_of_ble_eq_true rfl, Nat.le_of_ble_eq_true rfl⟩, hts (.instanceMethod yX4_isCar) (by decide +kernel), hts (.selects RX4 yX4_isCar yX4_isCar) (by decide +kernel)⟩ (st_recv hO hP.2.2.1) hP.2.2.1 hO rfl hl.1 (Nat.le_of_ble_eq_true rfl) dX6_requireCar_5 ⟨Nat.le_of_ble_eq_true rfl, Nat.le_of_ble_eq_true rfl⟩) ?_
  refine lv_if_ne (tgt := 22) hx hb dX6_requireCar_8 (by decide) (fun c_1 => ?_) (fun c_1 => ?_)
  · exact W.vret hx hb hr (fun t ht hW => ⟨rfl, ht⟩) hS.2.2 dX6_requireCar_22
  · have hE : f_X6_requireCar X c = 0 := (by rw [f_X6_requireCar, if_pos c_1])
    exact absurd hE hq

set_option maxHeartbeats 4000000 in
set_option maxRecDepth 100000 in
theorem c_X6_requireCar_t (l : Launch) (G : GG) (b : Nat) (A : Nat → Prop) (X : Cx) (c : Int32) (hst : l.stackTraces = false) (hq : f_X6_requireCar X c = 0) : vx_Met l yX6_requireCar wsX6_requireCar ({ frames := 8, cells := 1, slots := 6, locals := 120 }) (PcT G A [.ref b, .int c] (Cb G b X)) QNo (XT "java/lang/IndexOutOfBoundsException") 1 6 A := by
  refine metX (cc := cX6_requireCar) (maxL := 2) (ret := none) (by decide) rfl ?_
  intro p e s m below meth cd hx hb hr hml hown hts hlocks hno hP hO hTh
  have hin6 : ∀ w ∈ u_ws RX6 TX6 5, w ∈ wsX6_requireCar := by decide +kernel
  have hf_19 := hts (.fieldLink RX6 19 "CurbCars" "now" "LCurbCars$Street;") (by decide +kernel)
  have hS : va_S A s.heap s.heap [] := va_S.rf
  have hl := lv_entry ([.ref b, .int c]) (n := 2) (Nat.le_of_ble_eq_true rfl)
  rw [lg_entry_eq]
  generalize (lg_sl ([.ref b, .int c]) ++ List.replicate (2 - (lg_sl ([.ref b, .int c])).length) Slot.unset).toArray = ls at hl ⊢
  have hl : lv_has ls 2 [(0, .ref b), (1, .int c)] := hl
  refine lv_aload_n hx hb dX6_requireCar_0 rfl (lv_at hl 0 rfl) ?_
  refine va_get (D := G.1) (ci := 4) (v := .ref (b + 3)) (C := RX6) (T := TX6) (N := 5) hx hb hts hin6 hown hO.1 hP.1 0 rfl rfl 1 (by decide) hf_19 (fun _ h9 => h9) rfl dX6_requireCar_1 ?_
  refine lv_iload_n hx hb dX6_requireCar_4 rfl (lv_at hl 1 rfl) ?_
  refine cl_pi (rVN (As := [.int c]) (rest := []) ⟨hx, hb, hml, hown, hts⟩ (c_X4_isCar l G (b + 3) (xN X) c) ⟨va_cnB 1 hts gX6_requireCar_X4_isCar_n310 rfl rfl rfl (hO.2 _ (List.mem_of_getElem? (i := 47) rfl)) (hts (.initialized RX4) (by decide +kernel)) (by decide +kernel) ⟨Nat.le_of_ble_eq_true rfl, Nat.le_of_ble_eq_true rfl⟩, hts (.instanceMethod yX4_isCar) (by decide +kernel), hts (.selects RX4 yX4_isCar yX4_isCar) (by decide +kernel)⟩ (st_recv hO hP.2.2.1) hP.2.2.1 hO rfl hl.1 (Nat.le_of_ble_eq_true rfl) dX6_requireCar_5 ⟨Nat.le_of_ble_eq_true rfl, Nat.le_of_ble_eq_true rfl⟩) ?_
  refine lv_if_ne (tgt := 22) hx hb dX6_requireCar_8 (by decide) (fun c_1 => ?_) (fun c_1 => ?_)
  · have hE : f_X6_requireCar X c = 1 := (by rw [f_X6_requireCar, if_neg c_1])
    exact absurd (hE.symm.trans hq) (by decide)
  · have hE : f_X6_requireCar X c = 0 := (by rw [f_X6_requireCar, if_pos c_1])
    obtain ⟨sa, hsa⟩ := hTh.2.2.2 11 _ rfl
    exact vx_throwSW (names := ["java/lang/RuntimeException", "java/lang/Exception"]) (sa := sa) hx hb hst hown (by decide +kernel) (by decide +kernel) (hts (.classLink RX6 157 "java/lang/IndexOutOfBoundsException") (by decide +kernel)) (hts (.initialized "java/lang/IndexOutOfBoundsException") (by decide +kernel)) hsa (vx_hat (fun w h => hts w (List.mem_cons_of_mem _ (List.mem_append_right _ h))) thr_sub161 hTh.w) thr_good161 hTh.2.1 hTh.2.2.1 hS (by rw [hml]; exact hl.1) dX6_requireCar_11 dX6_requireCar_14 dX6_requireCar_15 dX6_requireCar_18 dX6_requireCar_21 (fun x hx => (hno x hx).elim) (Nat.le_of_ble_eq_true rfl) (Nat.le_of_ble_eq_true rfl) (Nat.le_of_ble_eq_true rfl) (Nat.le_of_ble_eq_true rfl) hlocks (fun t _ h1 h2 => ⟨rfl, h1, fun q hq _ => h2 q hq⟩) hS.2.2 (Nat.le_of_ble_eq_true rfl) (Nat.le_of_ble_eq_true rfl)

def f_X6_requireParked (X : Cx) (c : Int32) : Int32 :=
  if (f_X4_isParked (xN X) c) = 0 then 0 else
  1
set_option maxHeartbeats 4000000 in
set_option maxRecDepth 100000 in
theorem c_X6_requireParked_n (l : Launch) (G : GG) (b : Nat) (X : Cx) (c : Int32) (hq : ¬ f_X6_requireParked X c = 0) : Met l yX6_requireParked wsX6_requireParked ({ frames := 8, cells := 0, slots := 0, locals := 120 }) (PcH G [.ref b, .int c] (Cb G b X)) (QP none) 0 0 noA := by
  refine metH (cc := cX6_requireParked) (maxL := 2) (ret := none) (by decide) rfl ?_
  intro p e s m below meth cd hx hb hr hml hown hts hlocks hP hO
  have hin6 : ∀ w ∈ u_ws RX6 TX6 5, w ∈ wsX6_requireParked := by decide +kernel
  have hf_19 := hts (.fieldLink RX6 19 "CurbCars" "now" "LCurbCars$Street;") (by decide +kernel)
  have hS : va_S noA s.heap s.heap [] := va_S.rf
  have hl := lv_entry ([.ref b, .int c]) (n := 2) (Nat.le_of_ble_eq_true rfl)
  rw [lg_entry_eq]
  generalize (lg_sl ([.ref b, .int c]) ++ List.replicate (2 - (lg_sl ([.ref b, .int c])).length) Slot.unset).toArray = ls at hl ⊢
  have hl : lv_has ls 2 [(0, .ref b), (1, .int c)] := hl
  refine lv_aload_n hx hb dX6_requireParked_0 rfl (lv_at hl 0 rfl) ?_
  refine va_get (D := G.1) (ci := 4) (v := .ref (b + 3)) (C := RX6) (T := TX6) (N := 5) hx hb hts hin6 hown hO.1 hP.1 0 rfl rfl 1 (by decide) hf_19 (fun _ h9 => h9) rfl dX6_requireParked_1 ?_
  refine lv_iload_n hx hb dX6_requireParked_4 rfl (lv_at hl 1 rfl) ?_
  refine cl_pi (rVN (As := [.int c]) (rest := []) ⟨hx, hb, hml, hown, hts⟩ (c_X4_isParked l G (b + 3) (xN X) c) ⟨va_cnB 1 hts gX6_requireParked_X4_isParked_n140 rfl rfl rfl (hO.2 _ (List.mem_of_getElem? (i := 48) rfl)) (hts (.initialized RX4) (by decide +kernel)) (by decide +kernel) ⟨Nat.le_of_ble_eq_true rfl, Nat.le_of_ble_eq_true rfl⟩, hts (.instanceMethod yX4_isParked) (by decide +kernel), hts (.selects RX4 yX4_isParked yX4_isParked) (by decide +kernel)⟩ (st_recv hO hP.2.2.1) hP.2.2.1 hO rfl hl.1 (Nat.le_of_ble_eq_true rfl) dX6_requireParked_5 ⟨Nat.le_of_ble_eq_true rfl, Nat.le_of_ble_eq_true rfl⟩) ?_
  refine lv_if_ne (tgt := 22) hx hb dX6_requireParked_8 (by decide) (fun c_1 => ?_) (fun c_1 => ?_)
  · exact W.vret hx hb hr (fun t ht hW => ⟨rfl, ht⟩) hS.2.2 dX6_requireParked_22
  · have hE : f_X6_requireParked X c = 0 := (by rw [f_X6_requireParked, if_pos c_1])
    exact absurd hE hq

set_option maxHeartbeats 4000000 in
set_option maxRecDepth 100000 in
theorem c_X6_requireParked_t (l : Launch) (G : GG) (b : Nat) (A : Nat → Prop) (X : Cx) (c : Int32) (hst : l.stackTraces = false) (hq : f_X6_requireParked X c = 0) : vx_Met l yX6_requireParked wsX6_requireParked ({ frames := 8, cells := 1, slots := 6, locals := 120 }) (PcT G A [.ref b, .int c] (Cb G b X)) QNo (XT "java/lang/IllegalStateException") 1 6 A := by
  refine metX (cc := cX6_requireParked) (maxL := 2) (ret := none) (by decide) rfl ?_
  intro p e s m below meth cd hx hb hr hml hown hts hlocks hno hP hO hTh
  have hin6 : ∀ w ∈ u_ws RX6 TX6 5, w ∈ wsX6_requireParked := by decide +kernel
  have hf_19 := hts (.fieldLink RX6 19 "CurbCars" "now" "LCurbCars$Street;") (by decide +kernel)
  have hS : va_S A s.heap s.heap [] := va_S.rf
  have hl := lv_entry ([.ref b, .int c]) (n := 2) (Nat.le_of_ble_eq_true rfl)
  rw [lg_entry_eq]
  generalize (lg_sl ([.ref b, .int c]) ++ List.replicate (2 - (lg_sl ([.ref b, .int c])).length) Slot.unset).toArray = ls at hl ⊢
  have hl : lv_has ls 2 [(0, .ref b), (1, .int c)] := hl
  refine lv_aload_n hx hb dX6_requireParked_0 rfl (lv_at hl 0 rfl) ?_
  refine va_get (D := G.1) (ci := 4) (v := .ref (b + 3)) (C := RX6) (T := TX6) (N := 5) hx hb hts hin6 hown hO.1 hP.1 0 rfl rfl 1 (by decide) hf_19 (fun _ h9 => h9) rfl dX6_requireParked_1 ?_
  refine lv_iload_n hx hb dX6_requireParked_4 rfl (lv_at hl 1 rfl) ?_
  refine cl_pi (rVN (As := [.int c]) (rest := []) ⟨hx, hb, hml, hown, hts⟩ (c_X4_isParked l G (b + 3) (xN X) c) ⟨va_cnB 1 hts gX6_requireParked_X4_isParked_n140 rfl rfl rfl (hO.2 _ (List.mem_of_getElem? (i := 48) rfl)) (hts (.initialized RX4) (by decide +kernel)) (by decide +kernel) ⟨Nat.le_of_ble_eq_true rfl, Nat.le_of_ble_eq_true rfl⟩, hts (.instanceMethod yX4_isParked) (by decide +kernel), hts (.selects RX4 yX4_isParked yX4_isParked) (by decide +kernel)⟩ (st_recv hO hP.2.2.1) hP.2.2.1 hO rfl hl.1 (Nat.le_of_ble_eq_true rfl) dX6_requireParked_5 ⟨Nat.le_of_ble_eq_true rfl, Nat.le_of_ble_eq_true rfl⟩) ?_
  refine lv_if_ne (tgt := 22) hx hb dX6_requireParked_8 (by decide) (fun c_1 => ?_) (fun c_1 => ?_)
  · have hE : f_X6_requireParked X c = 1 := (by rw [f_X6_requireParked, if_neg c_1])
    exact absurd (hE.symm.trans hq) (by decide)
  · have hE : f_X6_requireParked X c = 0 := (by rw [f_X6_requireParked, if_pos c_1])
    obtain ⟨sa, hsa⟩ := hTh.2.2.2 14 _ rfl
    exact vx_throwSW (names := ["java/lang/RuntimeException", "java/lang/Exception"]) (sa := sa) hx hb hst hown (by decide +kernel) (by decide +kernel) (hts (.classLink RX6 51 "java/lang/IllegalStateException") (by decide +kernel)) (hts (.initialized "java/lang/IllegalStateException") (by decide +kernel)) hsa (vx_hat (fun w h => hts w (List.mem_cons_of_mem _ (List.mem_append_right _ h))) thr_sub55 hTh.w) thr_good55 hTh.2.1 hTh.2.2.1 hS (by rw [hml]; exact hl.1) dX6_requireParked_11 dX6_requireParked_14 dX6_requireParked_15 dX6_requireParked_18 dX6_requireParked_21 (fun x hx => (hno x hx).elim) (Nat.le_of_ble_eq_true rfl) (Nat.le_of_ble_eq_true rfl) (Nat.le_of_ble_eq_true rfl) (Nat.le_of_ble_eq_true rfl) hlocks (fun t _ h1 h2 => ⟨rfl, h1, fun q hq _ => h2 q hq⟩) hS.2.2 (Nat.le_of_ble_eq_true rfl) (Nat.le_of_ble_eq_true rfl)
