def f_X6_isCell (x : Int32) : Int32 :=
  if x < 0 then 0 else
  if 80 ≤ x then 0 else
  1
set_option maxHeartbeats 4000000 in
set_option maxRecDepth 100000 in
theorem c_X6_isCell (l : Launch) (G : GG) (x : Int32) : Met l yX6_isCell wsX6_isCell ({ frames := 0, cells := 0, slots := 0, locals := 0 }) (PcH G [.int x] (fun _ => True)) (QP (some (.int (f_X6_isCell x)))) 0 0 noA := by
  refine metH (cc := cX6_isCell) (maxL := 1) (ret := (some .boolean)) (by decide) rfl ?_
  intro p e s m below meth cd hx hb hr hml hown hts hlocks hP hO
  have hS : va_S noA s.heap s.heap [] := va_S.rf
  have hl := lv_entry ([.int x]) (n := 1) (Nat.le_of_ble_eq_true rfl)
  rw [lg_entry_eq]
  generalize (lg_sl ([.int x]) ++ List.replicate (1 - (lg_sl ([.int x])).length) Slot.unset).toArray = ls at hl ⊢
  have hl : lv_has ls 1 [(0, .int x)] := hl
  refine lv_iload_n hx hb dX6_isCell_0 rfl (lv_at hl 0 rfl) ?_
  refine lv_if_lt (tgt := 14) hx hb dX6_isCell_1 (by decide) (fun c_1 => ?_) (fun c_1 => ?_)
  · refine lv_iconst (v := 0) hx hb dX6_isCell_14 (by decide) ?_
    have hE : f_X6_isCell x = 0 := (by rw [f_X6_isCell, if_pos c_1])
    exact W.zret (ty := .boolean) hx hb hr rfl (fun t ht hW => ⟨by rw [hE], ht⟩) hS.2.2 dX6_isCell_15
  · refine lv_iload_n hx hb dX6_isCell_4 rfl (lv_at hl 0 rfl) ?_
    refine lv_bipush (v := 80) hx hb dX6_isCell_5 (by decide) ?_
    refine lv_icmp_ge (tgt := 14) hx hb dX6_isCell_7 (by decide) (fun c_2 => ?_) (fun c_2 => ?_)
    · refine lv_iconst (v := 0) hx hb dX6_isCell_14 (by decide) ?_
      have hE : f_X6_isCell x = 0 := (by rw [f_X6_isCell, if_neg c_1, if_pos c_2])
      exact W.zret (ty := .boolean) hx hb hr rfl (fun t ht hW => ⟨by rw [hE], ht⟩) hS.2.2 dX6_isCell_15
    · refine lv_iconst (v := 1) hx hb dX6_isCell_10 (by decide) ?_
      refine lv_goto (tgt := 15) hx hb dX6_isCell_11 (by decide) ?_
      have hE : f_X6_isCell x = 1 := (by rw [f_X6_isCell, if_neg c_1, if_neg c_2])
      exact W.zret (ty := .boolean) hx hb hr rfl (fun t ht hW => ⟨by rw [hE], ht⟩) hS.2.2 dX6_isCell_15

theorem b_f_X6_isCell (x : Int32) : f_X6_isCell x = 0 ∨ f_X6_isCell x = 1 := by
  unfold f_X6_isCell
  repeat (first | exact Or.inl rfl | exact Or.inr rfl | split)

def f_X6_isLength (x : Int32) : Int32 :=
  if x < 2 then 0 else
  if 8 < x then 0 else
  1
set_option maxHeartbeats 4000000 in
set_option maxRecDepth 100000 in
theorem c_X6_isLength (l : Launch) (G : GG) (x : Int32) : Met l yX6_isLength wsX6_isLength ({ frames := 0, cells := 0, slots := 0, locals := 0 }) (PcH G [.int x] (fun _ => True)) (QP (some (.int (f_X6_isLength x)))) 0 0 noA := by
  refine metH (cc := cX6_isLength) (maxL := 1) (ret := (some .boolean)) (by decide) rfl ?_
  intro p e s m below meth cd hx hb hr hml hown hts hlocks hP hO
  have hS : va_S noA s.heap s.heap [] := va_S.rf
  have hl := lv_entry ([.int x]) (n := 1) (Nat.le_of_ble_eq_true rfl)
  rw [lg_entry_eq]
  generalize (lg_sl ([.int x]) ++ List.replicate (1 - (lg_sl ([.int x])).length) Slot.unset).toArray = ls at hl ⊢
  have hl : lv_has ls 1 [(0, .int x)] := hl
  refine lv_iload_n hx hb dX6_isLength_0 rfl (lv_at hl 0 rfl) ?_
  refine lv_iconst (v := 2) hx hb dX6_isLength_1 (by decide) ?_
  refine lv_icmp_lt (tgt := 15) hx hb dX6_isLength_2 (by decide) (fun c_1 => ?_) (fun c_1 => ?_)
  · refine lv_iconst (v := 0) hx hb dX6_isLength_15 (by decide) ?_
    have hE : f_X6_isLength x = 0 := (by rw [f_X6_isLength, if_pos c_1])
    exact W.zret (ty := .boolean) hx hb hr rfl (fun t ht hW => ⟨by rw [hE], ht⟩) hS.2.2 dX6_isLength_16
  · refine lv_iload_n hx hb dX6_isLength_5 rfl (lv_at hl 0 rfl) ?_
    refine lv_bipush (v := 8) hx hb dX6_isLength_6 (by decide) ?_
    refine lv_icmp_gt (tgt := 15) hx hb dX6_isLength_8 (by decide) (fun c_2 => ?_) (fun c_2 => ?_)
    · refine lv_iconst (v := 0) hx hb dX6_isLength_15 (by decide) ?_
      have hE : f_X6_isLength x = 0 := (by rw [f_X6_isLength, if_neg c_1, if_pos c_2])
      exact W.zret (ty := .boolean) hx hb hr rfl (fun t ht hW => ⟨by rw [hE], ht⟩) hS.2.2 dX6_isLength_16
    · refine lv_iconst (v := 1) hx hb dX6_isLength_11 (by decide) ?_
      refine lv_goto (tgt := 16) hx hb dX6_isLength_12 (by decide) ?_
      have hE : f_X6_isLength x = 1 := (by rw [f_X6_isLength, if_neg c_1, if_neg c_2])
      exact W.zret (ty := .boolean) hx hb hr rfl (fun t ht hW => ⟨by rw [hE], ht⟩) hS.2.2 dX6_isLength_16

theorem b_f_X6_isLength (x : Int32) : f_X6_isLength x = 0 ∨ f_X6_isLength x = 1 := by
  unfold f_X6_isLength
  repeat (first | exact Or.inl rfl | exact Or.inr rfl | split)

def f_X6_isStay (x : Int32) : Int32 :=
  if x < 1 then 0 else
  if 99 < x then 0 else
  1
set_option maxHeartbeats 4000000 in
set_option maxRecDepth 100000 in
theorem c_X6_isStay (l : Launch) (G : GG) (x : Int32) : Met l yX6_isStay wsX6_isStay ({ frames := 0, cells := 0, slots := 0, locals := 0 }) (PcH G [.int x] (fun _ => True)) (QP (some (.int (f_X6_isStay x)))) 0 0 noA := by
  refine metH (cc := cX6_isStay) (maxL := 1) (ret := (some .boolean)) (by decide) rfl ?_
  intro p e s m below meth cd hx hb hr hml hown hts hlocks hP hO
  have hS : va_S noA s.heap s.heap [] := va_S.rf
  have hl := lv_entry ([.int x]) (n := 1) (Nat.le_of_ble_eq_true rfl)
  rw [lg_entry_eq]
  generalize (lg_sl ([.int x]) ++ List.replicate (1 - (lg_sl ([.int x])).length) Slot.unset).toArray = ls at hl ⊢
  have hl : lv_has ls 1 [(0, .int x)] := hl
  refine lv_iload_n hx hb dX6_isStay_0 rfl (lv_at hl 0 rfl) ?_
  refine lv_iconst (v := 1) hx hb dX6_isStay_1 (by decide) ?_
  refine lv_icmp_lt (tgt := 15) hx hb dX6_isStay_2 (by decide) (fun c_1 => ?_) (fun c_1 => ?_)
  · refine lv_iconst (v := 0) hx hb dX6_isStay_15 (by decide) ?_
    have hE : f_X6_isStay x = 0 := (by rw [f_X6_isStay, if_pos c_1])
    exact W.zret (ty := .boolean) hx hb hr rfl (fun t ht hW => ⟨by rw [hE], ht⟩) hS.2.2 dX6_isStay_16
  · refine lv_iload_n hx hb dX6_isStay_5 rfl (lv_at hl 0 rfl) ?_
    refine lv_bipush (v := 99) hx hb dX6_isStay_6 (by decide) ?_
    refine lv_icmp_gt (tgt := 15) hx hb dX6_isStay_8 (by decide) (fun c_2 => ?_) (fun c_2 => ?_)
    · refine lv_iconst (v := 0) hx hb dX6_isStay_15 (by decide) ?_
      have hE : f_X6_isStay x = 0 := (by rw [f_X6_isStay, if_neg c_1, if_pos c_2])
      exact W.zret (ty := .boolean) hx hb hr rfl (fun t ht hW => ⟨by rw [hE], ht⟩) hS.2.2 dX6_isStay_16
    · refine lv_iconst (v := 1) hx hb dX6_isStay_11 (by decide) ?_
      refine lv_goto (tgt := 16) hx hb dX6_isStay_12 (by decide) ?_
      have hE : f_X6_isStay x = 1 := (by rw [f_X6_isStay, if_neg c_1, if_neg c_2])
      exact W.zret (ty := .boolean) hx hb hr rfl (fun t ht hW => ⟨by rw [hE], ht⟩) hS.2.2 dX6_isStay_16

theorem b_f_X6_isStay (x : Int32) : f_X6_isStay x = 0 ∨ f_X6_isStay x = 1 := by
  unfold f_X6_isStay
  repeat (first | exact Or.inl rfl | exact Or.inr rfl | split)

def f_X6_isMinutes (x : Int32) : Int32 :=
  if x < 1 then 0 else
  if 60 < x then 0 else
  1
set_option maxHeartbeats 4000000 in
set_option maxRecDepth 100000 in
theorem c_X6_isMinutes (l : Launch) (G : GG) (x : Int32) : Met l yX6_isMinutes wsX6_isMinutes ({ frames := 0, cells := 0, slots := 0, locals := 0 }) (PcH G [.int x] (fun _ => True)) (QP (some (.int (f_X6_isMinutes x)))) 0 0 noA := by
  refine metH (cc := cX6_isMinutes) (maxL := 1) (ret := (some .boolean)) (by decide) rfl ?_
  intro p e s m below meth cd hx hb hr hml hown hts hlocks hP hO
  have hS : va_S noA s.heap s.heap [] := va_S.rf
  have hl := lv_entry ([.int x]) (n := 1) (Nat.le_of_ble_eq_true rfl)
  rw [lg_entry_eq]
  generalize (lg_sl ([.int x]) ++ List.replicate (1 - (lg_sl ([.int x])).length) Slot.unset).toArray = ls at hl ⊢
  have hl : lv_has ls 1 [(0, .int x)] := hl
  refine lv_iload_n hx hb dX6_isMinutes_0 rfl (lv_at hl 0 rfl) ?_
  refine lv_iconst (v := 1) hx hb dX6_isMinutes_1 (by decide) ?_
  refine lv_icmp_lt (tgt := 15) hx hb dX6_isMinutes_2 (by decide) (fun c_1 => ?_) (fun c_1 => ?_)
  · refine lv_iconst (v := 0) hx hb dX6_isMinutes_15 (by decide) ?_
    have hE : f_X6_isMinutes x = 0 := (by rw [f_X6_isMinutes, if_pos c_1])
    exact W.zret (ty := .boolean) hx hb hr rfl (fun t ht hW => ⟨by rw [hE], ht⟩) hS.2.2 dX6_isMinutes_16
  · refine lv_iload_n hx hb dX6_isMinutes_5 rfl (lv_at hl 0 rfl) ?_
    refine lv_bipush (v := 60) hx hb dX6_isMinutes_6 (by decide) ?_
    refine lv_icmp_gt (tgt := 15) hx hb dX6_isMinutes_8 (by decide) (fun c_2 => ?_) (fun c_2 => ?_)
    · refine lv_iconst (v := 0) hx hb dX6_isMinutes_15 (by decide) ?_
      have hE : f_X6_isMinutes x = 0 := (by rw [f_X6_isMinutes, if_neg c_1, if_pos c_2])
      exact W.zret (ty := .boolean) hx hb hr rfl (fun t ht hW => ⟨by rw [hE], ht⟩) hS.2.2 dX6_isMinutes_16
    · refine lv_iconst (v := 1) hx hb dX6_isMinutes_11 (by decide) ?_
      refine lv_goto (tgt := 16) hx hb dX6_isMinutes_12 (by decide) ?_
      have hE : f_X6_isMinutes x = 1 := (by rw [f_X6_isMinutes, if_neg c_1, if_neg c_2])
      exact W.zret (ty := .boolean) hx hb hr rfl (fun t ht hW => ⟨by rw [hE], ht⟩) hS.2.2 dX6_isMinutes_16

theorem b_f_X6_isMinutes (x : Int32) : f_X6_isMinutes x = 0 ∨ f_X6_isMinutes x = 1 := by
  unfold f_X6_isMinutes
  repeat (first | exact Or.inl rfl | exact Or.inr rfl | split)

def f_X6_isSettingValue (w : Int32) (v : Int32) : Int32 :=
  if w = 0 then (if v < 0 then 0 else
    if 2 < v then 0 else
    1) else
  if w = 1 then (if v < 0 then 0 else
    if 4 < v then 0 else
    1) else
  if w = 2 then (if v < 1 then 0 else
    if 30 < v then 0 else
    1) else
  0
set_option maxHeartbeats 4000000 in
set_option maxRecDepth 100000 in
theorem c_X6_isSettingValue (l : Launch) (G : GG) (w : Int32) (v : Int32) : Met l yX6_isSettingValue wsX6_isSettingValue ({ frames := 0, cells := 0, slots := 0, locals := 0 }) (PcH G [.int w, .int v] (fun _ => True)) (QP (some (.int (f_X6_isSettingValue w v)))) 0 0 noA := by
  refine metH (cc := cX6_isSettingValue) (maxL := 2) (ret := (some .boolean)) (by decide) rfl ?_
  intro p e s m below meth cd hx hb hr hml hown hts hlocks hP hO
  have hS : va_S noA s.heap s.heap [] := va_S.rf
  have hl := lv_entry ([.int w, .int v]) (n := 2) (Nat.le_of_ble_eq_true rfl)
  rw [lg_entry_eq]
  generalize (lg_sl ([.int w, .int v]) ++ List.replicate (2 - (lg_sl ([.int w, .int v])).length) Slot.unset).toArray = ls at hl ⊢
  have hl : lv_has ls 2 [(0, .int w), (1, .int v)] := hl
  refine lv_iload_n hx hb dX6_isSettingValue_0 rfl (lv_at hl 0 rfl) ?_
  by_cases c_1 : w = 0
  · refine lv_tableIn (off := 27) (tgt := 28) hx hb dX6_isSettingValue_1 (by rw [c_1]; decide) (by rw [c_1]; decide) (by rw [c_1]; decide +kernel) (by decide) ?_
    refine lv_iload_n hx hb dX6_isSettingValue_28 rfl (lv_at hl 1 rfl) ?_
    refine lv_if_lt (tgt := 41) hx hb dX6_isSettingValue_29 (by decide) (fun c_2 => ?_) (fun c_2 => ?_)
    · refine lv_iconst (v := 0) hx hb dX6_isSettingValue_41 (by decide) ?_
      have hE : f_X6_isSettingValue w v = 0 := (by rw [f_X6_isSettingValue, if_pos c_1, if_pos c_2])
      exact W.zret (ty := .boolean) hx hb hr rfl (fun t ht hW => ⟨by rw [hE], ht⟩) hS.2.2 dX6_isSettingValue_42
    · refine lv_iload_n hx hb dX6_isSettingValue_32 rfl (lv_at hl 1 rfl) ?_
      refine lv_iconst (v := 2) hx hb dX6_isSettingValue_33 (by decide) ?_
      refine lv_icmp_gt (tgt := 41) hx hb dX6_isSettingValue_34 (by decide) (fun c_3 => ?_) (fun c_3 => ?_)
      · refine lv_iconst (v := 0) hx hb dX6_isSettingValue_41 (by decide) ?_
        have hE : f_X6_isSettingValue w v = 0 := (by rw [f_X6_isSettingValue, if_pos c_1, if_neg c_2, if_pos c_3])
        exact W.zret (ty := .boolean) hx hb hr rfl (fun t ht hW => ⟨by rw [hE], ht⟩) hS.2.2 dX6_isSettingValue_42
      · refine lv_iconst (v := 1) hx hb dX6_isSettingValue_37 (by decide) ?_
        refine lv_goto (tgt := 42) hx hb dX6_isSettingValue_38 (by decide) ?_
        have hE : f_X6_isSettingValue w v = 1 := (by rw [f_X6_isSettingValue, if_pos c_1, if_neg c_2, if_neg c_3])
        exact W.zret (ty := .boolean) hx hb hr rfl (fun t ht hW => ⟨by rw [hE], ht⟩) hS.2.2 dX6_isSettingValue_42
  by_cases c_4 : w = 1
  · refine lv_tableIn (off := 42) (tgt := 43) hx hb dX6_isSettingValue_1 (by rw [c_4]; decide) (by rw [c_4]; decide) (by rw [c_4]; decide +kernel) (by decide) ?_
    refine lv_iload_n hx hb dX6_isSettingValue_43 rfl (lv_at hl 1 rfl) ?_
    refine lv_if_lt (tgt := 56) hx hb dX6_isSettingValue_44 (by decide) (fun c_5 => ?_) (fun c_5 => ?_)
    · refine lv_iconst (v := 0) hx hb dX6_isSettingValue_56 (by decide) ?_
      have hE : f_X6_isSettingValue w v = 0 := (by rw [f_X6_isSettingValue, if_neg c_1, if_pos c_4, if_pos c_5])
      exact W.zret (ty := .boolean) hx hb hr rfl (fun t ht hW => ⟨by rw [hE], ht⟩) hS.2.2 dX6_isSettingValue_57
    · refine lv_iload_n hx hb dX6_isSettingValue_47 rfl (lv_at hl 1 rfl) ?_
      refine lv_iconst (v := 4) hx hb dX6_isSettingValue_48 (by decide) ?_
      refine lv_icmp_gt (tgt := 56) hx hb dX6_isSettingValue_49 (by decide) (fun c_6 => ?_) (fun c_6 => ?_)
      · refine lv_iconst (v := 0) hx hb dX6_isSettingValue_56 (by decide) ?_
        have hE : f_X6_isSettingValue w v = 0 := (by rw [f_X6_isSettingValue, if_neg c_1, if_pos c_4, if_neg c_5, if_pos c_6])
        exact W.zret (ty := .boolean) hx hb hr rfl (fun t ht hW => ⟨by rw [hE], ht⟩) hS.2.2 dX6_isSettingValue_57
      · refine lv_iconst (v := 1) hx hb dX6_isSettingValue_52 (by decide) ?_
        refine lv_goto (tgt := 57) hx hb dX6_isSettingValue_53 (by decide) ?_
        have hE : f_X6_isSettingValue w v = 1 := (by rw [f_X6_isSettingValue, if_neg c_1, if_pos c_4, if_neg c_5, if_neg c_6])
        exact W.zret (ty := .boolean) hx hb hr rfl (fun t ht hW => ⟨by rw [hE], ht⟩) hS.2.2 dX6_isSettingValue_57
  by_cases c_7 : w = 2
  · refine lv_tableIn (off := 57) (tgt := 58) hx hb dX6_isSettingValue_1 (by rw [c_7]; decide) (by rw [c_7]; decide) (by rw [c_7]; decide +kernel) (by decide) ?_
    refine lv_iload_n hx hb dX6_isSettingValue_58 rfl (lv_at hl 1 rfl) ?_
    refine lv_iconst (v := 1) hx hb dX6_isSettingValue_59 (by decide) ?_
    refine lv_icmp_lt (tgt := 73) hx hb dX6_isSettingValue_60 (by decide) (fun c_8 => ?_) (fun c_8 => ?_)
    · refine lv_iconst (v := 0) hx hb dX6_isSettingValue_73 (by decide) ?_
      have hE : f_X6_isSettingValue w v = 0 := (by rw [f_X6_isSettingValue, if_neg c_1, if_neg c_4, if_pos c_7, if_pos c_8])
      exact W.zret (ty := .boolean) hx hb hr rfl (fun t ht hW => ⟨by rw [hE], ht⟩) hS.2.2 dX6_isSettingValue_74
    · refine lv_iload_n hx hb dX6_isSettingValue_63 rfl (lv_at hl 1 rfl) ?_
      refine lv_bipush (v := 30) hx hb dX6_isSettingValue_64 (by decide) ?_
      refine lv_icmp_gt (tgt := 73) hx hb dX6_isSettingValue_66 (by decide) (fun c_9 => ?_) (fun c_9 => ?_)
      · refine lv_iconst (v := 0) hx hb dX6_isSettingValue_73 (by decide) ?_
        have hE : f_X6_isSettingValue w v = 0 := (by rw [f_X6_isSettingValue, if_neg c_1, if_neg c_4, if_pos c_7, if_neg c_8, if_pos c_9])
        exact W.zret (ty := .boolean) hx hb hr rfl (fun t ht hW => ⟨by rw [hE], ht⟩) hS.2.2 dX6_isSettingValue_74
      · refine lv_iconst (v := 1) hx hb dX6_isSettingValue_69 (by decide) ?_
        refine lv_goto (tgt := 74) hx hb dX6_isSettingValue_70 (by decide) ?_
        have hE : f_X6_isSettingValue w v = 1 := (by rw [f_X6_isSettingValue, if_neg c_1, if_neg c_4, if_pos c_7, if_neg c_8, if_neg c_9])
        exact W.zret (ty := .boolean) hx hb hr rfl (fun t ht hW => ⟨by rw [hE], ht⟩) hS.2.2 dX6_isSettingValue_74
  refine lv_tableOut (tgt := 75) hx hb dX6_isSettingValue_1 (tab_3 c_1 c_4 c_7) (by decide) ?_
  refine lv_iconst (v := 0) hx hb dX6_isSettingValue_75 (by decide) ?_
  have hE : f_X6_isSettingValue w v = 0 := (by rw [f_X6_isSettingValue, if_neg c_1, if_neg c_4, if_neg c_7])
  exact W.zret (ty := .boolean) hx hb hr rfl (fun t ht hW => ⟨by rw [hE], ht⟩) hS.2.2 dX6_isSettingValue_76

theorem b_f_X6_isSettingValue (w : Int32) (v : Int32) : f_X6_isSettingValue w v = 0 ∨ f_X6_isSettingValue w v = 1 := by
  unfold f_X6_isSettingValue
  repeat (first | exact Or.inl rfl | exact Or.inr rfl | split)

def f_X6_nextChance (h : Int64) : Int64 :=
  (h * 6364136223846793005) + 1442695040888963407
set_option maxHeartbeats 4000000 in
set_option maxRecDepth 100000 in
theorem c_X6_nextChance (l : Launch) (G : GG) (h : Int64) : Met l yX6_nextChance wsX6_nextChance ({ frames := 0, cells := 0, slots := 0, locals := 0 }) (PcH G [.long h] (fun _ => True)) (QP (some (.long (f_X6_nextChance h)))) 0 0 noA := by
  refine metH (cc := cX6_nextChance) (maxL := 2) (ret := (some .long)) (by decide) rfl ?_
  intro p e s m below meth cd hx hb hr hml hown hts hlocks hP hO
  have hS : va_S noA s.heap s.heap [] := va_S.rf
  have hl := lv_entry ([.long h]) (n := 2) (Nat.le_of_ble_eq_true rfl)
  rw [lg_entry_eq]
  generalize (lg_sl ([.long h]) ++ List.replicate (2 - (lg_sl ([.long h])).length) Slot.unset).toArray = ls at hl ⊢
  have hl : lv_has ls 2 [(0, .long h)] := hl
  refine lv_lload_n hx hb dX6_nextChance_0 rfl (lv_at hl 0 rfl) ?_
  refine lv_ldc2 (v := 6364136223846793005) hx hb hown (hts (.constantLong RX6 331 (6364136223846793005)) (by decide +kernel)) dX6_nextChance_1 ?_
  refine lv_lmul hx hb dX6_nextChance_4 ?_
  refine lv_ldc2 (v := 1442695040888963407) hx hb hown (hts (.constantLong RX6 333 (1442695040888963407)) (by decide +kernel)) dX6_nextChance_5 ?_
  refine lv_ladd hx hb dX6_nextChance_8 ?_
  have hE : f_X6_nextChance h = (h * 6364136223846793005) + 1442695040888963407 := (by rw [f_X6_nextChance])
  exact W.lret hx hb hr (fun t ht hW => ⟨by rw [hE], ht⟩) hS.2.2 dX6_nextChance_9

def f_X6_get (n : Nat) (f : Rw) (i : Int32) : Int32 :=
  if i < 0 then (-1) else
  if i < (nI n) then f i.toNatClampNeg else
  (-1)
set_option maxHeartbeats 4000000 in
set_option maxRecDepth 100000 in
theorem c_X6_get (l : Launch) (G : GG) (a : Nat) (n : Nat) (f : Rw) (i : Int32) (hn : n < 2 ^ 31) : Met l yX6_get wsX6_get ({ frames := 0, cells := 0, slots := 0, locals := 0 }) (PcH G [.ref a, .int i] (Arr G 0 a n f)) (QP (some (.int (f_X6_get n f i)))) 0 0 noA := by
  refine metH (cc := cX6_get) (maxL := 2) (ret := (some .int)) (by decide) rfl ?_
  intro p e s m below meth cd hx hb hr hml hown hts hlocks hP hO
  have hS : va_S noA s.heap s.heap [] := va_S.rf
  have hl := lv_entry ([.ref a, .int i]) (n := 2) (Nat.le_of_ble_eq_true rfl)
  rw [lg_entry_eq]
  generalize (lg_sl ([.ref a, .int i]) ++ List.replicate (2 - (lg_sl ([.ref a, .int i])).length) Slot.unset).toArray = ls at hl ⊢
  have hl : lv_has ls 2 [(0, .ref a), (1, .int i)] := hl
  refine lv_aload_n hx hb dX6_get_0 rfl (lv_at hl 0 rfl) ?_
  refine lv_ifnull hx hb dX6_get_1 ?_
  refine lv_iload_n hx hb dX6_get_4 rfl (lv_at hl 1 rfl) ?_
  refine lv_if_lt (tgt := 14) hx hb dX6_get_5 (by decide) (fun c_1 => ?_) (fun c_1 => ?_)
  · refine lv_iconst (v := -1) hx hb dX6_get_14 (by decide) ?_
    have hE : f_X6_get n f i = (-1) := (by rw [f_X6_get, if_pos c_1])
    exact W.iret hx hb hr (fun t ht hW => ⟨by rw [hE], ht⟩) hS.2.2 dX6_get_15
  · refine lv_iload_n hx hb dX6_get_8 rfl (lv_at hl 1 rfl) ?_
    refine lv_aload_n hx hb dX6_get_9 rfl (lv_at hl 0 rfl) ?_
    refine va_alen (ty := .int) (v := nI n) hx hb hO.1 hP 0 0 rfl rfl rfl dX6_get_10 ?_
    refine lv_icmp_lt (tgt := 16) hx hb dX6_get_11 (by decide) (fun c_2 => ?_) (fun c_2 => ?_)
    · refine lv_aload_n hx hb dX6_get_16 rfl (lv_at hl 0 rfl) ?_
      refine lv_iload_n hx hb dX6_get_17 rfl (lv_at hl 1 rfl) ?_
      refine va_iald hx hb hO.1 hP 0 0 rfl rfl (in_ofl (by assumption) (by assumption) hn) dX6_get_18 ?_
      have hE : f_X6_get n f i = f i.toNatClampNeg := (by rw [f_X6_get, if_neg c_1, if_pos c_2])
      exact W.iret hx hb hr (fun t ht hW => ⟨by rw [hE], ht⟩) hS.2.2 dX6_get_19
    · refine lv_iconst (v := -1) hx hb dX6_get_14 (by decide) ?_
      have hE : f_X6_get n f i = (-1) := (by rw [f_X6_get, if_neg c_1, if_neg c_2])
      exact W.iret hx hb hr (fun t ht hW => ⟨by rw [hE], ht⟩) hS.2.2 dX6_get_15

def h_X6_put (n : Nat) (f : Rw) (i : Int32) (v : Int32) : Rw :=
  if i < 0 then f else
  if i < (nI n) then (upd f i.toNatClampNeg v) else
  f
set_option maxHeartbeats 4000000 in
set_option maxRecDepth 100000 in
theorem c_X6_put (l : Launch) (G : GG) (a : Nat) (n : Nat) (f : Rw) (i : Int32) (v : Int32) (hn : n < 2 ^ 31) : Met l yX6_put wsX6_put ({ frames := 0, cells := 0, slots := 0, locals := 0 }) (PcH G [.ref a, .int i, .int v] (Arr G 0 a n f)) (QM none (Arr G 0 a n (h_X6_put n f i v)) (one a)) 0 0 (one a) := by
  refine metH (cc := cX6_put) (maxL := 3) (ret := none) (by decide) rfl ?_
  intro p e s m below meth cd hx hb hr hml hown hts hlocks hP hO
  have hA : ∀ q, (one a) q → (one a) q := fun _ h => h
  have hS : va_S (one a) s.heap s.heap [] := va_S.rf
  have hl := lv_entry ([.ref a, .int i, .int v]) (n := 3) (Nat.le_of_ble_eq_true rfl)
  rw [lg_entry_eq]
  generalize (lg_sl ([.ref a, .int i, .int v]) ++ List.replicate (3 - (lg_sl ([.ref a, .int i, .int v])).length) Slot.unset).toArray = ls at hl ⊢
  have hl : lv_has ls 3 [(0, .ref a), (1, .int i), (2, .int v)] := hl
  refine lv_aload_n hx hb dX6_put_0 rfl (lv_at hl 0 rfl) ?_
  refine lv_ifnull hx hb dX6_put_1 ?_
  refine lv_iload_n hx hb dX6_put_4 rfl (lv_at hl 1 rfl) ?_
  refine lv_if_lt (tgt := 14) hx hb dX6_put_5 (by decide) (fun c_1 => ?_) (fun c_1 => ?_)
  · have hE : h_X6_put n f i v = f := (by rw [h_X6_put, if_pos c_1])
    exact W.vret hx hb hr (fun t ht hW => ⟨rfl, by rw [ht, hE]; exact hP, hS.F ht⟩) hS.2.2 dX6_put_14
  · refine lv_iload_n hx hb dX6_put_8 rfl (lv_at hl 1 rfl) ?_
    refine lv_aload_n hx hb dX6_put_9 rfl (lv_at hl 0 rfl) ?_
    refine va_alen (ty := .int) (v := nI n) hx hb hO.1 hP 0 0 rfl rfl rfl dX6_put_10 ?_
    refine lv_icmp_lt (tgt := 15) hx hb dX6_put_11 (by decide) (fun c_2 => ?_) (fun c_2 => ?_)
    · refine lv_aload_n hx hb dX6_put_15 rfl (lv_at hl 0 rfl) ?_
      refine lv_iload_n hx hb dX6_put_16 rfl (lv_at hl 1 rfl) ?_
      refine lv_iload_n hx hb dX6_put_17 rfl (lv_at hl 2 rfl) ?_
      refine va_iast hx hb hO.1 hP (Arr_D (hA _ rfl)) hS 0 0 rfl rfl (in_ofl (by assumption) (by assumption) hn) dX6_put_18 (fun H locs hP hD hS => ?_)
      have hP : Arr G 0 a n (upd f i.toNatClampNeg v) H := id hP
      have hE : h_X6_put n f i v = (upd f i.toNatClampNeg v) := (by rw [h_X6_put, if_neg c_1, if_pos c_2])
      exact W.vret hx hb hr (fun t ht hW => ⟨rfl, by rw [ht, hE]; exact hP, hS.F ht⟩) hS.2.2 dX6_put_19
    · have hE : h_X6_put n f i v = f := (by rw [h_X6_put, if_neg c_1, if_neg c_2])
      exact W.vret hx hb hr (fun t ht hW => ⟨rfl, by rw [ht, hE]; exact hP, hS.F ht⟩) hS.2.2 dX6_put_14

def pC (S : St) (i v : Int32) : St := wC S (h_X6_put 80 (sC S) i v)
def pG (S : St) (i v : Int32) : St := wG S (h_X6_put 80 (sG S) i v)
def pL (S : St) (i v : Int32) : St := wL S (h_X6_put 40 (sL S) i v)
def pY (S : St) (i v : Int32) : St := wY S (h_X6_put 40 (sY S) i v)
def pT (S : St) (i v : Int32) : St := wT S (h_X6_put 40 (sT S) i v)
def pP (S : St) (i v : Int32) : St := wP S (h_X6_put 40 (sP S) i v)
def pK (S : St) (i v : Int32) : St := wK S (h_X6_put 40 (sK S) i v)
def pR (S : St) (i v : Int32) : St := wR S (h_X6_put 40 (sR S) i v)