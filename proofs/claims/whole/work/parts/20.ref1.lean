section QN
variable {p : Program} {l : Launch} {e : Env} {R : Room} {s : State} {m : MethodId} {args : Array Value} {below : List Frame} {meth : Method} {c : Code} {H : Heap} {locs : List Loc} {cells slots : Nat} {Q : State → Prop} {cc : ByteArray} {pc : Nat} {ls : Array Slot} {rest : List Value}
theorem isub_n (hexec : p.tables.exec = Jvm.exec) (hb : c.code = cc) {a b : Nat} (hab : b ≤ a) (hdg : decode cc pc = .ok (.isub, 1))
    (k : W p l e R s m args below meth c H locs cells slots Q (F0 m (pc + 1) ls (.int (nI (a - b)) :: rest))) : W p l e R s m args below meth c H locs cells slots Q (F0 m pc ls (.int (nI b) :: .int (nI a) :: rest)) := by
  refine lv_isub hexec hb hdg ?_
  rw [pk_sub hab]
  exact k
end QN
theorem kN1 {B k : Nat} (h : ¬ nI B ≤ nI k) (hB : B < 2 ^ 31) (hk : k < 2 ^ 31) : k < B := Nat.not_le.mp fun q => h (nI_le q hk)
/-- the first cell from x on that has no gap's end: 80 if there is none -/

def f_X7_in (v : Int64) (lo : Int64) (hi : Int64) : Int32 :=
  if (lg_cmp v lo) < 0 then 0 else
  if 0 < (lg_cmp v hi) then 0 else
  1
set_option maxHeartbeats 4000000 in
set_option maxRecDepth 100000 in
theorem c_X7_in (l : Launch) (G : GG) (v : Int64) (lo : Int64) (hi : Int64) : Met l yX7_in wsX7_in ({ frames := 0, cells := 0, slots := 0, locals := 0 }) (PcH G [.long v, .long lo, .long hi] (fun _ => True)) (QP (some (.int (f_X7_in v lo hi)))) 0 0 noA := by
  refine metH (cc := cX7_in) (maxL := 6) (ret := (some .boolean)) (by decide) rfl ?_
  intro p e s m below meth cd hx hb hr hml hown hts hlocks hP hO
  have hS : va_S noA s.heap s.heap [] := va_S.rf
  have hl := lv_entry ([.long v, .long lo, .long hi]) (n := 6) (Nat.le_of_ble_eq_true rfl)
  rw [lg_entry_eq]
  generalize (lg_sl ([.long v, .long lo, .long hi]) ++ List.replicate (6 - (lg_sl ([.long v, .long lo, .long hi])).length) Slot.unset).toArray = ls at hl ⊢
  have hl : lv_has ls 6 [(0, .long v), (2, .long lo), (4, .long hi)] := hl
  refine lv_lload_n hx hb dX7_in_0 rfl (lv_at hl 0 rfl) ?_
  refine lv_lload_n hx hb dX7_in_1 rfl (lv_at hl 1 rfl) ?_
  refine W.lcmp hx hb dX7_in_2 ?_
  refine lv_if_lt (tgt := 17) hx hb dX7_in_3 (by decide) (fun c_1 => ?_) (fun c_1 => ?_)
  · refine lv_iconst (v := 0) hx hb dX7_in_17 (by decide) ?_
    have hE : f_X7_in v lo hi = 0 := (by rw [f_X7_in, if_pos c_1])
    exact W.zret (ty := .boolean) hx hb hr rfl (fun t ht hW => ⟨by rw [hE], ht⟩) hS.2.2 dX7_in_18
  · refine lv_lload_n hx hb dX7_in_6 rfl (lv_at hl 0 rfl) ?_
    refine lv_lload hx hb dX7_in_7 (lv_at hl 2 rfl) ?_
    refine W.lcmp hx hb dX7_in_9 ?_
    refine lv_if_gt (tgt := 17) hx hb dX7_in_10 (by decide) (fun c_2 => ?_) (fun c_2 => ?_)
    · refine lv_iconst (v := 0) hx hb dX7_in_17 (by decide) ?_
      have hE : f_X7_in v lo hi = 0 := (by rw [f_X7_in, if_neg c_1, if_pos c_2])
      exact W.zret (ty := .boolean) hx hb hr rfl (fun t ht hW => ⟨by rw [hE], ht⟩) hS.2.2 dX7_in_18
    · refine lv_iconst (v := 1) hx hb dX7_in_13 (by decide) ?_
      refine lv_goto (tgt := 18) hx hb dX7_in_14 (by decide) ?_
      have hE : f_X7_in v lo hi = 1 := (by rw [f_X7_in, if_neg c_1, if_neg c_2])
      exact W.zret (ty := .boolean) hx hb hr rfl (fun t ht hW => ⟨by rw [hE], ht⟩) hS.2.2 dX7_in_18

theorem b_f_X7_in (v : Int64) (lo : Int64) (hi : Int64) : f_X7_in v lo hi = 0 ∨ f_X7_in v lo hi = 1 := by
  unfold f_X7_in
  repeat (first | exact Or.inl rfl | exact Or.inr rfl | split)

def f_X7_isCell (x : Int32) : Int32 :=
  f_X7_in x.toInt64 0 79
set_option maxHeartbeats 4000000 in
set_option maxRecDepth 100000 in
theorem c_X7_isCell (l : Launch) (G : GG) (x : Int32) : Met l yX7_isCell wsX7_isCell ({ frames := 1, cells := 0, slots := 0, locals := 25 }) (PcH G [.int x] (fun _ => True)) (QP (some (.int (f_X7_isCell x)))) 0 0 noA := by
  refine metH (cc := cX7_isCell) (maxL := 1) (ret := (some .boolean)) (by decide) rfl ?_
  intro p e s m below meth cd hx hb hr hml hown hts hlocks hP hO
  have hS : va_S noA s.heap s.heap [] := va_S.rf
  have hl := lv_entry ([.int x]) (n := 1) (Nat.le_of_ble_eq_true rfl)
  rw [lg_entry_eq]
  generalize (lg_sl ([.int x]) ++ List.replicate (1 - (lg_sl ([.int x])).length) Slot.unset).toArray = ls at hl ⊢
  have hl : lv_has ls 1 [(0, .int x)] := hl
  refine lv_iload_n hx hb dX7_isCell_0 rfl (lv_at hl 0 rfl) ?_
  refine lv_i2l (v := x.toInt64) hx hb dX7_isCell_1 rfl ?_
  refine lv_lconst (v := 0) hx hb dX7_isCell_2 (by decide) ?_
  refine lv_ldc2 (v := 79) hx hb hown (hts (.constantLong RX7 52 (79)) (by decide +kernel)) dX7_isCell_3 ?_
  refine cl_pi (rS (As := [.long x.toInt64, .long 0, .long 79]) (rest := []) ⟨hx, hb, hml, hown, hts⟩ (c_X7_in l G x.toInt64 0 79) (va_cwS 3 hts gX7_isCell_X7_in rfl rfl rfl (by decide +kernel) ⟨Nat.le_of_ble_eq_true rfl, Nat.le_of_ble_eq_true rfl⟩) trivial hO rfl hl.1 (Nat.le_of_ble_eq_true rfl) dX7_isCell_6 ⟨Nat.le_of_ble_eq_true rfl, Nat.le_of_ble_eq_true rfl⟩) ?_
  have hE : f_X7_isCell x = f_X7_in x.toInt64 0 79 := (by rw [f_X7_isCell])
  exact W.zret (ty := .boolean) hx hb hr (nar_b (b_f_X7_in ..)) (fun t ht hW => ⟨by rw [hE], ht⟩) hS.2.2 dX7_isCell_9

theorem b_f_X7_isCell (x : Int32) : f_X7_isCell x = 0 ∨ f_X7_isCell x = 1 := b_f_X7_in ..

def f_X7_isLength (x : Int32) : Int32 :=
  f_X7_in x.toInt64 2 8
set_option maxHeartbeats 4000000 in
set_option maxRecDepth 100000 in
theorem c_X7_isLength (l : Launch) (G : GG) (x : Int32) : Met l yX7_isLength wsX7_isLength ({ frames := 1, cells := 0, slots := 0, locals := 25 }) (PcH G [.int x] (fun _ => True)) (QP (some (.int (f_X7_isLength x)))) 0 0 noA := by
  refine metH (cc := cX7_isLength) (maxL := 1) (ret := (some .boolean)) (by decide) rfl ?_
  intro p e s m below meth cd hx hb hr hml hown hts hlocks hP hO
  have hS : va_S noA s.heap s.heap [] := va_S.rf
  have hl := lv_entry ([.int x]) (n := 1) (Nat.le_of_ble_eq_true rfl)
  rw [lg_entry_eq]
  generalize (lg_sl ([.int x]) ++ List.replicate (1 - (lg_sl ([.int x])).length) Slot.unset).toArray = ls at hl ⊢
  have hl : lv_has ls 1 [(0, .int x)] := hl
  refine lv_iload_n hx hb dX7_isLength_0 rfl (lv_at hl 0 rfl) ?_
  refine lv_i2l (v := x.toInt64) hx hb dX7_isLength_1 rfl ?_
  refine lv_ldc2 (v := 2) hx hb hown (hts (.constantLong RX7 54 (2)) (by decide +kernel)) dX7_isLength_2 ?_
  refine lv_ldc2 (v := 8) hx hb hown (hts (.constantLong RX7 56 (8)) (by decide +kernel)) dX7_isLength_5 ?_
  refine cl_pi (rS (As := [.long x.toInt64, .long 2, .long 8]) (rest := []) ⟨hx, hb, hml, hown, hts⟩ (c_X7_in l G x.toInt64 2 8) (va_cwS 3 hts gX7_isLength_X7_in rfl rfl rfl (by decide +kernel) ⟨Nat.le_of_ble_eq_true rfl, Nat.le_of_ble_eq_true rfl⟩) trivial hO rfl hl.1 (Nat.le_of_ble_eq_true rfl) dX7_isLength_8 ⟨Nat.le_of_ble_eq_true rfl, Nat.le_of_ble_eq_true rfl⟩) ?_
  have hE : f_X7_isLength x = f_X7_in x.toInt64 2 8 := (by rw [f_X7_isLength])
  exact W.zret (ty := .boolean) hx hb hr (nar_b (b_f_X7_in ..)) (fun t ht hW => ⟨by rw [hE], ht⟩) hS.2.2 dX7_isLength_11

theorem b_f_X7_isLength (x : Int32) : f_X7_isLength x = 0 ∨ f_X7_isLength x = 1 := b_f_X7_in ..

def f_X7_isSetting (w : Int32) (v : Int32) : Int32 :=
  if w = 0 then (if (f_X7_in v.toInt64 0 2) = 0 then (if w = 1 then (if (f_X7_in v.toInt64 0 4) = 0 then (if w = 2 then (if (f_X7_in v.toInt64 1 30) = 0 then 0 else
            1) else
          0) else
        1) else
      if w = 2 then (if (f_X7_in v.toInt64 1 30) = 0 then 0 else
        1) else
      0) else
    1) else
  if w = 1 then (if (f_X7_in v.toInt64 0 4) = 0 then (if w = 2 then (if (f_X7_in v.toInt64 1 30) = 0 then 0 else
        1) else
      0) else
    1) else
  if w = 2 then (if (f_X7_in v.toInt64 1 30) = 0 then 0 else
    1) else
  0
set_option maxHeartbeats 4000000 in
set_option maxRecDepth 100000 in
theorem c_X7_isSetting (l : Launch) (G : GG) (w : Int32) (v : Int32) : Met l yX7_isSetting wsX7_isSetting ({ frames := 1, cells := 0, slots := 0, locals := 25 }) (PcH G [.int w, .int v] (fun _ => True)) (QP (some (.int (f_X7_isSetting w v)))) 0 0 noA := by
  refine metH (cc := cX7_isSetting) (maxL := 2) (ret := (some .boolean)) (by decide) rfl ?_
  intro p e s m below meth cd hx hb hr hml hown hts hlocks hP hO
  have hS : va_S noA s.heap s.heap [] := va_S.rf
  have hl := lv_entry ([.int w, .int v]) (n := 2) (Nat.le_of_ble_eq_true rfl)
  rw [lg_entry_eq]
  generalize (lg_sl ([.int w, .int v]) ++ List.replicate (2 - (lg_sl ([.int w, .int v])).length) Slot.unset).toArray = ls at hl ⊢
  have hl : lv_has ls 2 [(0, .int w), (1, .int v)] := hl
  refine lv_iload_n hx hb dX7_isSetting_0 rfl (lv_at hl 0 rfl) ?_
  refine lv_if_ne (tgt := 16) hx hb dX7_isSetting_1 (by decide) (fun c_1 => ?_) (fun c_1 => ?_)
  · refine lv_iload_n hx hb dX7_isSetting_16 rfl (lv_at hl 0 rfl) ?_
    refine lv_iconst (v := 1) hx hb dX7_isSetting_17 (by decide) ?_
    refine lv_icmp_ne (tgt := 33) hx hb dX7_isSetting_18 (by decide) (fun c_2 => ?_) (fun c_2 => ?_)
    · refine lv_iload_n hx hb dX7_isSetting_33 rfl (lv_at hl 0 rfl) ?_
      refine lv_iconst (v := 2) hx hb dX7_isSetting_34 (by decide) ?_
      refine lv_icmp_ne (tgt := 54) hx hb dX7_isSetting_35 (by decide) (fun c_3 => ?_) (fun c_3 => ?_)
      · refine lv_iconst (v := 0) hx hb dX7_isSetting_54 (by decide) ?_
        have hE : f_X7_isSetting w v = 0 := (by rw [f_X7_isSetting, if_neg c_1, if_neg c_2, if_neg c_3])
        exact W.zret (ty := .boolean) hx hb hr rfl (fun t ht hW => ⟨by rw [hE], ht⟩) hS.2.2 dX7_isSetting_55
      · refine lv_iload_n hx hb dX7_isSetting_38 rfl (lv_at hl 1 rfl) ?_
        refine lv_i2l (v := v.toInt64) hx hb dX7_isSetting_39 rfl ?_
        refine lv_lconst (v := 1) hx hb dX7_isSetting_40 (by decide) ?_
        refine lv_ldc2 (v := 30) hx hb hown (hts (.constantLong RX7 60 (30)) (by decide +kernel)) dX7_isSetting_41 ?_
        refine cl_pi (rS (As := [.long v.toInt64, .long 1, .long 30]) (rest := []) ⟨hx, hb, hml, hown, hts⟩ (c_X7_in l G v.toInt64 1 30) (va_cwS 3 hts gX7_isSetting_X7_in rfl rfl rfl (by decide +kernel) ⟨Nat.le_of_ble_eq_true rfl, Nat.le_of_ble_eq_true rfl⟩) trivial hO rfl hl.1 (Nat.le_of_ble_eq_true rfl) dX7_isSetting_44 ⟨Nat.le_of_ble_eq_true rfl, Nat.le_of_ble_eq_true rfl⟩) ?_
        refine lv_if_eq (tgt := 54) hx hb dX7_isSetting_47 (by decide) (fun c_4 => ?_) (fun c_4 => ?_)
        · refine lv_iconst (v := 0) hx hb dX7_isSetting_54 (by decide) ?_
          have hE : f_X7_isSetting w v = 0 := (by rw [f_X7_isSetting, if_neg c_1, if_neg c_2, if_pos c_3, if_pos c_4])
          exact W.zret (ty := .boolean) hx hb hr rfl (fun t ht hW => ⟨by rw [hE], ht⟩) hS.2.2 dX7_isSetting_55
        · refine lv_iconst (v := 1) hx hb dX7_isSetting_50 (by decide) ?_
          refine lv_goto (tgt := 55) hx hb dX7_isSetting_51 (by decide) ?_
          have hE : f_X7_isSetting w v = 1 := (by rw [f_X7_isSetting, if_neg c_1, if_neg c_2, if_pos c_3, if_neg c_4])
          exact W.zret (ty := .boolean) hx hb hr rfl (fun t ht hW => ⟨by rw [hE], ht⟩) hS.2.2 dX7_isSetting_55
    · refine lv_iload_n hx hb dX7_isSetting_21 rfl (lv_at hl 1 rfl) ?_
      refine lv_i2l (v := v.toInt64) hx hb dX7_isSetting_22 rfl ?_
      refine lv_lconst (v := 0) hx hb dX7_isSetting_23 (by decide) ?_
      refine lv_ldc2 (v := 4) hx hb hown (hts (.constantLong RX7 58 (4)) (by decide +kernel)) dX7_isSetting_24 ?_
      refine cl_pi (rS (As := [.long v.toInt64, .long 0, .long 4]) (rest := []) ⟨hx, hb, hml, hown, hts⟩ (c_X7_in l G v.toInt64 0 4) (va_cwS 3 hts gX7_isSetting_X7_in rfl rfl rfl (by decide +kernel) ⟨Nat.le_of_ble_eq_true rfl, Nat.le_of_ble_eq_true rfl⟩) trivial hO rfl hl.1 (Nat.le_of_ble_eq_true rfl) dX7_isSetting_27 ⟨Nat.le_of_ble_eq_true rfl, Nat.le_of_ble_eq_true rfl⟩) ?_
      refine lv_if_ne (tgt := 50) hx hb dX7_isSetting_30 (by decide) (fun c_5 => ?_) (fun c_5 => ?_)
      · refine lv_iconst (v := 1) hx hb dX7_isSetting_50 (by decide) ?_
        refine lv_goto (tgt := 55) hx hb dX7_isSetting_51 (by decide) ?_
        have hE : f_X7_isSetting w v = 1 := (by rw [f_X7_isSetting, if_neg c_1, if_pos c_2, if_neg c_5])
        exact W.zret (ty := .boolean) hx hb hr rfl (fun t ht hW => ⟨by rw [hE], ht⟩) hS.2.2 dX7_isSetting_55
      · refine lv_iload_n hx hb dX7_isSetting_33 rfl (lv_at hl 0 rfl) ?_
        refine lv_iconst (v := 2) hx hb dX7_isSetting_34 (by decide) ?_
        refine lv_icmp_ne (tgt := 54) hx hb dX7_isSetting_35 (by decide) (fun c_6 => ?_) (fun c_6 => ?_)
        · refine lv_iconst (v := 0) hx hb dX7_isSetting_54 (by decide) ?_
          have hE : f_X7_isSetting w v = 0 := (by rw [f_X7_isSetting, if_neg c_1, if_pos c_2, if_pos c_5, if_neg c_6])
          exact W.zret (ty := .boolean) hx hb hr rfl (fun t ht hW => ⟨by rw [hE], ht⟩) hS.2.2 dX7_isSetting_55
        · refine lv_iload_n hx hb dX7_isSetting_38 rfl (lv_at hl 1 rfl) ?_
          refine lv_i2l (v := v.toInt64) hx hb dX7_isSetting_39 rfl ?_
          refine lv_lconst (v := 1) hx hb dX7_isSetting_40 (by decide) ?_
          refine lv_ldc2 (v := 30) hx hb hown (hts (.constantLong RX7 60 (30)) (by decide +kernel)) dX7_isSetting_41 ?_
          refine cl_pi (rS (As := [.long v.toInt64, .long 1, .long 30]) (rest := []) ⟨hx, hb, hml, hown, hts⟩ (c_X7_in l G v.toInt64 1 30) (va_cwS 3 hts gX7_isSetting_X7_in rfl rfl rfl (by decide +kernel) ⟨Nat.le_of_ble_eq_true rfl, Nat.le_of_ble_eq_true rfl⟩) trivial hO rfl hl.1 (Nat.le_of_ble_eq_true rfl) dX7_isSetting_44 ⟨Nat.le_of_ble_eq_true rfl, Nat.le_of_ble_eq_true rfl⟩) ?_
          refine lv_if_eq (tgt := 54) hx hb dX7_isSetting_47 (by decide) (fun c_7 => ?_) (fun c_7 => ?_)
          · refine lv_iconst (v := 0) hx hb dX7_isSetting_54 (by decide) ?_
            have hE : f_X7_isSetting w v = 0 := (by rw [f_X7_isSetting, if_neg c_1, if_pos c_2, if_pos c_5, if_pos c_6, if_pos c_7])
            exact W.zret (ty := .boolean) hx hb hr rfl (fun t ht hW => ⟨by rw [hE], ht⟩) hS.2.2 dX7_isSetting_55
          · refine lv_iconst (v := 1) hx hb dX7_isSetting_50 (by decide) ?_
            refine lv_goto (tgt := 55) hx hb dX7_isSetting_51 (by decide) ?_
            have hE : f_X7_isSetting w v = 1 := (by rw [f_X7_isSetting, if_neg c_1, if_pos c_2, if_pos c_5, if_pos c_6, if_neg c_7])
            exact W.zret (ty := .boolean) hx hb hr rfl (fun t ht hW => ⟨by rw [hE], ht⟩) hS.2.2 dX7_isSetting_55
  · refine lv_iload_n hx hb dX7_isSetting_4 rfl (lv_at hl 1 rfl) ?_
    refine lv_i2l (v := v.toInt64) hx hb dX7_isSetting_5 rfl ?_
    refine lv_lconst (v := 0) hx hb dX7_isSetting_6 (by decide) ?_
    refine lv_ldc2 (v := 2) hx hb hown (hts (.constantLong RX7 54 (2)) (by decide +kernel)) dX7_isSetting_7 ?_
    refine cl_pi (rS (As := [.long v.toInt64, .long 0, .long 2]) (rest := []) ⟨hx, hb, hml, hown, hts⟩ (c_X7_in l G v.toInt64 0 2) (va_cwS 3 hts gX7_isSetting_X7_in rfl rfl rfl (by decide +kernel) ⟨Nat.le_of_ble_eq_true rfl, Nat.le_of_ble_eq_true rfl⟩) trivial hO rfl hl.1 (Nat.le_of_ble_eq_true rfl) dX7_isSetting_10 ⟨Nat.le_of_ble_eq_true rfl, Nat.le_of_ble_eq_true rfl⟩) ?_
    refine lv_if_ne (tgt := 50) hx hb dX7_isSetting_13 (by decide) (fun c_8 => ?_) (fun c_8 => ?_)
    · refine lv_iconst (v := 1) hx hb dX7_isSetting_50 (by decide) ?_
      refine lv_goto (tgt := 55) hx hb dX7_isSetting_51 (by decide) ?_
      have hE : f_X7_isSetting w v = 1 := (by rw [f_X7_isSetting, if_pos c_1, if_neg c_8])
      exact W.zret (ty := .boolean) hx hb hr rfl (fun t ht hW => ⟨by rw [hE], ht⟩) hS.2.2 dX7_isSetting_55
    · refine lv_iload_n hx hb dX7_isSetting_16 rfl (lv_at hl 0 rfl) ?_
      refine lv_iconst (v := 1) hx hb dX7_isSetting_17 (by decide) ?_
      refine lv_icmp_ne (tgt := 33) hx hb dX7_isSetting_18 (by decide) (fun c_9 => ?_) (fun c_9 => ?_)
      · refine lv_iload_n hx hb dX7_isSetting_33 rfl (lv_at hl 0 rfl) ?_
        refine lv_iconst (v := 2) hx hb dX7_isSetting_34 (by decide) ?_
        refine lv_icmp_ne (tgt := 54) hx hb dX7_isSetting_35 (by decide) (fun c_10 => ?_) (fun c_10 => ?_)
        · refine lv_iconst (v := 0) hx hb dX7_isSetting_54 (by decide) ?_
          have hE : f_X7_isSetting w v = 0 := (by rw [f_X7_isSetting, if_pos c_1, if_pos c_8, if_neg c_9, if_neg c_10])
          exact W.zret (ty := .boolean) hx hb hr rfl (fun t ht hW => ⟨by rw [hE], ht⟩) hS.2.2 dX7_isSetting_55
        · refine lv_iload_n hx hb dX7_isSetting_38 rfl (lv_at hl 1 rfl) ?_
          refine lv_i2l (v := v.toInt64) hx hb dX7_isSetting_39 rfl ?_
          refine lv_lconst (v := 1) hx hb dX7_isSetting_40 (by decide) ?_
          refine lv_ldc2 (v := 30) hx hb hown (hts (.constantLong RX7 60 (30)) (by decide +kernel)) dX7_isSetting_41 ?_
          refine cl_pi (rS (As := [.long v.toInt64, .long 1, .long 30]) (rest := []) ⟨hx, hb, hml, hown, hts⟩ (c_X7_in l G v.toInt64 1 30) (va_cwS 3 hts gX7_isSetting_X7_in rfl rfl rfl (by decide +kernel) ⟨Nat.le_of_ble_eq_true rfl, Nat.le_of_ble_eq_true rfl⟩) trivial hO rfl hl.1 (Nat.le_of_ble_eq_true rfl) dX7_isSetting_44 ⟨Nat.le_of_ble_eq_true rfl, Nat.le_of_ble_eq_true rfl⟩) ?_
          refine lv_if_eq (tgt := 54) hx hb dX7_isSetting_47 (by decide) (fun c_11 => ?_) (fun c_11 => ?_)
          · refine lv_iconst (v := 0) hx hb dX7_isSetting_54 (by decide) ?_
            have hE : f_X7_isSetting w v = 0 := (by rw [f_X7_isSetting, if_pos c_1, if_pos c_8, if_neg c_9, if_pos c_10, if_pos c_11])
            exact W.zret (ty := .boolean) hx hb hr rfl (fun t ht hW => ⟨by rw [hE], ht⟩) hS.2.2 dX7_isSetting_55
          · refine lv_iconst (v := 1) hx hb dX7_isSetting_50 (by decide) ?_
            refine lv_goto (tgt := 55) hx hb dX7_isSetting_51 (by decide) ?_
            have hE : f_X7_isSetting w v = 1 := (by rw [f_X7_isSetting, if_pos c_1, if_pos c_8, if_neg c_9, if_pos c_10, if_neg c_11])
            exact W.zret (ty := .boolean) hx hb hr rfl (fun t ht hW => ⟨by rw [hE], ht⟩) hS.2.2 dX7_isSetting_55
      · refine lv_iload_n hx hb dX7_isSetting_21 rfl (lv_at hl 1 rfl) ?_
        refine lv_i2l (v := v.toInt64) hx hb dX7_isSetting_22 rfl ?_
        refine lv_lconst (v := 0) hx hb dX7_isSetting_23 (by decide) ?_
        refine lv_ldc2 (v := 4) hx hb hown (hts (.constantLong RX7 58 (4)) (by decide +kernel)) dX7_isSetting_24 ?_
        refine cl_pi (rS (As := [.long v.toInt64, .long 0, .long 4]) (rest := []) ⟨hx, hb, hml, hown, hts⟩ (c_X7_in l G v.toInt64 0 4) (va_cwS 3 hts gX7_isSetting_X7_in rfl rfl rfl (by decide +kernel) ⟨Nat.le_of_ble_eq_true rfl, Nat.le_of_ble_eq_true rfl⟩) trivial hO rfl hl.1 (Nat.le_of_ble_eq_true rfl) dX7_isSetting_27 ⟨Nat.le_of_ble_eq_true rfl, Nat.le_of_ble_eq_true rfl⟩) ?_
        refine lv_if_ne (tgt := 50) hx hb dX7_isSetting_30 (by decide) (fun c_12 => ?_) (fun c_12 => ?_)
        · refine lv_iconst (v := 1) hx hb dX7_isSetting_50 (by decide) ?_
          refine lv_goto (tgt := 55) hx hb dX7_isSetting_51 (by decide) ?_
          have hE : f_X7_isSetting w v = 1 := (by rw [f_X7_isSetting, if_pos c_1, if_pos c_8, if_pos c_9, if_neg c_12])
          exact W.zret (ty := .boolean) hx hb hr rfl (fun t ht hW => ⟨by rw [hE], ht⟩) hS.2.2 dX7_isSetting_55
        · refine lv_iload_n hx hb dX7_isSetting_33 rfl (lv_at hl 0 rfl) ?_
          refine lv_iconst (v := 2) hx hb dX7_isSetting_34 (by decide) ?_
          refine lv_icmp_ne (tgt := 54) hx hb dX7_isSetting_35 (by decide) (fun c_13 => ?_) (fun c_13 => ?_)
          · refine lv_iconst (v := 0) hx hb dX7_isSetting_54 (by decide) ?_
            have hE : f_X7_isSetting w v = 0 := (by rw [f_X7_isSetting, if_pos c_1, if_pos c_8, if_pos c_9, if_pos c_12, if_neg c_13])
            exact W.zret (ty := .boolean) hx hb hr rfl (fun t ht hW => ⟨by rw [hE], ht⟩) hS.2.2 dX7_isSetting_55
          · refine lv_iload_n hx hb dX7_isSetting_38 rfl (lv_at hl 1 rfl) ?_
            refine lv_i2l (v := v.toInt64) hx hb dX7_isSetting_39 rfl ?_
            refine lv_lconst (v := 1) hx hb dX7_isSetting_40 (by decide) ?_
            refine lv_ldc2 (v := 30) hx hb hown (hts (.constantLong RX7 60 (30)) (by decide +kernel)) dX7_isSetting_41 ?_
            refine cl_pi (rS (As := [.long v.toInt64, .long 1, .long 30]) (rest := []) ⟨hx, hb, hml, hown, hts⟩ (c_X7_in l G v.toInt64 1 30) (va_cwS 3 hts gX7_isSetting_X7_in rfl rfl rfl (by decide +kernel) ⟨Nat.le_of_ble_eq_true rfl, Nat.le_of_ble_eq_true rfl⟩) trivial hO rfl hl.1 (Nat.le_of_ble_eq_true rfl) dX7_isSetting_44 ⟨Nat.le_of_ble_eq_true rfl, Nat.le_of_ble_eq_true rfl⟩) ?_
            refine lv_if_eq (tgt := 54) hx hb dX7_isSetting_47 (by decide) (fun c_14 => ?_) (fun c_14 => ?_)
            · refine lv_iconst (v := 0) hx hb dX7_isSetting_54 (by decide) ?_
              have hE : f_X7_isSetting w v = 0 := (by rw [f_X7_isSetting, if_pos c_1, if_pos c_8, if_pos c_9, if_pos c_12, if_pos c_13, if_pos c_14])
              exact W.zret (ty := .boolean) hx hb hr rfl (fun t ht hW => ⟨by rw [hE], ht⟩) hS.2.2 dX7_isSetting_55
            · refine lv_iconst (v := 1) hx hb dX7_isSetting_50 (by decide) ?_
              refine lv_goto (tgt := 55) hx hb dX7_isSetting_51 (by decide) ?_
              have hE : f_X7_isSetting w v = 1 := (by rw [f_X7_isSetting, if_pos c_1, if_pos c_8, if_pos c_9, if_pos c_12, if_pos c_13, if_neg c_14])
              exact W.zret (ty := .boolean) hx hb hr rfl (fun t ht hW => ⟨by rw [hE], ht⟩) hS.2.2 dX7_isSetting_55

theorem b_f_X7_isSetting (w : Int32) (v : Int32) : f_X7_isSetting w v = 0 ∨ f_X7_isSetting w v = 1 := by
  unfold f_X7_isSetting
  repeat (first | exact Or.inl rfl | exact Or.inr rfl | split)

def f_X7_of (g : Rw) (c : Nat) (w : Nat) : Int32 :=
  g ((87 + (6 * c)) + w)
set_option maxHeartbeats 4000000 in
set_option maxRecDepth 100000 in
theorem c_X7_of (l : Launch) (G : GG) (a : Nat) (g : Rw) (c : Nat) (w : Nat) (h : 87 + 6 * c + w < 327) : Met l yX7_of wsX7_of ({ frames := 0, cells := 0, slots := 0, locals := 0 }) (PcH G [.ref a, .int (nI c), .int (nI w)] (Arr G 0 a 327 g)) (QP (some (.int (f_X7_of g c w)))) 0 0 noA := by
  refine metH (cc := cX7_of) (maxL := 3) (ret := (some .int)) (by decide) rfl ?_
  intro p e s m below meth cd hx hb hr hml hown hts hlocks hP hO
  have hS : va_S noA s.heap s.heap [] := va_S.rf
  have hl := lv_entry ([.ref a, .int (nI c), .int (nI w)]) (n := 3) (Nat.le_of_ble_eq_true rfl)
  rw [lg_entry_eq]
  generalize (lg_sl ([.ref a, .int (nI c), .int (nI w)]) ++ List.replicate (3 - (lg_sl ([.ref a, .int (nI c), .int (nI w)])).length) Slot.unset).toArray = ls at hl ⊢
  have hl : lv_has ls 3 [(0, .ref a), (1, .int (nI c)), (2, .int (nI w))] := hl
  refine lv_aload_n hx hb dX7_of_0 rfl (lv_at hl 0 rfl) ?_
  refine lv_bipush (v := 87) hx hb dX7_of_1 (by decide) ?_
  refine lv_bipush (v := 6) hx hb dX7_of_3 (by decide) ?_
  refine lv_iload_n hx hb dX7_of_5 rfl (lv_at hl 1 rfl) ?_
  refine imul_n (a := 6) (b := c) hx hb dX7_of_6 ?_
  refine iadd_n (a := 87) (b := 6 * c) hx hb dX7_of_7 ?_
  refine lv_iload_n hx hb dX7_of_8 rfl (lv_at hl 2 rfl) ?_
  refine iadd_n (a := 87 + (6 * c)) (b := w) hx hb dX7_of_9 ?_
  refine iald_n hx hb hO.1 hP 0 0 rfl rfl (by omega) (by decide) dX7_of_10 ?_
  have hE : f_X7_of g c w = g ((87 + (6 * c)) + w) := (by rw [f_X7_of])
  exact W.iret hx hb hr (fun t ht hW => ⟨by rw [hE], ht⟩) hS.2.2 dX7_of_11

def h_X7_lay (g : Rw) (c : Nat) (w : Nat) (v : Int32) : Rw :=
  (upd g ((87 + (6 * c)) + w) v)
set_option maxHeartbeats 4000000 in
set_option maxRecDepth 100000 in
theorem c_X7_lay (l : Launch) (G : GG) (a : Nat) (g : Rw) (c : Nat) (w : Nat) (v : Int32) (h : 87 + 6 * c + w < 327) : Met l yX7_lay wsX7_lay ({ frames := 0, cells := 0, slots := 0, locals := 0 }) (PcH G [.ref a, .int (nI c), .int (nI w), .int v] (Arr G 0 a 327 g)) (QM none (Arr G 0 a 327 (h_X7_lay g c w v)) (one a)) 0 0 (one a) := by
  refine metH (cc := cX7_lay) (maxL := 4) (ret := none) (by decide) rfl ?_
  intro p e s m below meth cd hx hb hr hml hown hts hlocks hP hO
  have hA : ∀ q, (one a) q → (one a) q := fun _ h => h
  have hS : va_S (one a) s.heap s.heap [] := va_S.rf
  have hl := lv_entry ([.ref a, .int (nI c), .int (nI w), .int v]) (n := 4) (Nat.le_of_ble_eq_true rfl)
  rw [lg_entry_eq]
  generalize (lg_sl ([.ref a, .int (nI c), .int (nI w), .int v]) ++ List.replicate (4 - (lg_sl ([.ref a, .int (nI c), .int (nI w), .int v])).length) Slot.unset).toArray = ls at hl ⊢
  have hl : lv_has ls 4 [(0, .ref a), (1, .int (nI c)), (2, .int (nI w)), (3, .int v)] := hl
  refine lv_aload_n hx hb dX7_lay_0 rfl (lv_at hl 0 rfl) ?_
  refine lv_bipush (v := 87) hx hb dX7_lay_1 (by decide) ?_
  refine lv_bipush (v := 6) hx hb dX7_lay_3 (by decide) ?_
  refine lv_iload_n hx hb dX7_lay_5 rfl (lv_at hl 1 rfl) ?_
  refine imul_n (a := 6) (b := c) hx hb dX7_lay_6 ?_
  refine iadd_n (a := 87) (b := 6 * c) hx hb dX7_lay_7 ?_
  refine lv_iload_n hx hb dX7_lay_8 rfl (lv_at hl 2 rfl) ?_
  refine iadd_n (a := 87 + (6 * c)) (b := w) hx hb dX7_lay_9 ?_
  refine lv_iload_n hx hb dX7_lay_10 rfl (lv_at hl 3 rfl) ?_
  refine iast_n hx hb hO.1 hP (Arr_D (hA _ rfl)) hS 0 0 rfl rfl (by omega) (by decide) dX7_lay_11 (fun H locs hP hD hS => ?_)
  have hP : Arr G 0 a 327 (upd g ((87 + (6 * c)) + w) v) H := id hP
  have hE : h_X7_lay g c w v = (upd g ((87 + (6 * c)) + w) v) := (by rw [h_X7_lay])
  exact W.vret hx hb hr (fun t ht hW => ⟨rfl, by rw [ht, hE]; exact hP, hS.F ht⟩) hS.2.2 dX7_lay_12

def f_X7_isCar (g : Rw) (c : Int32) : Int32 :=
  f_X7_in c.toInt64 0 (((g 0) - 1).toInt64)
set_option maxHeartbeats 4000000 in
set_option maxRecDepth 100000 in
theorem c_X7_isCar (l : Launch) (G : GG) (a : Nat) (g : Rw) (c : Int32) : Met l yX7_isCar wsX7_isCar ({ frames := 1, cells := 0, slots := 0, locals := 25 }) (PcH G [.ref a, .int c] (Arr G 0 a 327 g)) (QP (some (.int (f_X7_isCar g c)))) 0 0 noA := by
  refine metH (cc := cX7_isCar) (maxL := 2) (ret := (some .boolean)) (by decide) rfl ?_
  intro p e s m below meth cd hx hb hr hml hown hts hlocks hP hO
  have hS : va_S noA s.heap s.heap [] := va_S.rf
  have hl := lv_entry ([.ref a, .int c]) (n := 2) (Nat.le_of_ble_eq_true rfl)
  rw [lg_entry_eq]
  generalize (lg_sl ([.ref a, .int c]) ++ List.replicate (2 - (lg_sl ([.ref a, .int c])).length) Slot.unset).toArray = ls at hl ⊢
  have hl : lv_has ls 2 [(0, .ref a), (1, .int c)] := hl
  refine lv_iload_n hx hb dX7_isCar_0 rfl (lv_at hl 1 rfl) ?_
  refine lv_i2l (v := c.toInt64) hx hb dX7_isCar_1 rfl ?_
  refine lv_lconst (v := 0) hx hb dX7_isCar_2 (by decide) ?_
  refine lv_aload_n hx hb dX7_isCar_3 rfl (lv_at hl 0 rfl) ?_
  refine lv_iconst (v := 0) hx hb dX7_isCar_4 (by decide) ?_
  refine iald_n (k := 0) hx hb hO.1 hP 0 0 rfl rfl (by omega) (by decide) dX7_isCar_5 ?_
  refine lv_iconst (v := 1) hx hb dX7_isCar_6 (by decide) ?_
  refine lv_isub hx hb dX7_isCar_7 ?_
  refine lv_i2l (v := ((g 0) - 1).toInt64) hx hb dX7_isCar_8 rfl ?_
  refine cl_pi (rS (As := [.long c.toInt64, .long 0, .long (((g 0) - 1).toInt64)]) (rest := []) ⟨hx, hb, hml, hown, hts⟩ (c_X7_in l G c.toInt64 0 (((g 0) - 1).toInt64)) (va_cwS 3 hts gX7_isCar_X7_in rfl rfl rfl (by decide +kernel) ⟨Nat.le_of_ble_eq_true rfl, Nat.le_of_ble_eq_true rfl⟩) trivial hO rfl hl.1 (Nat.le_of_ble_eq_true rfl) dX7_isCar_9 ⟨Nat.le_of_ble_eq_true rfl, Nat.le_of_ble_eq_true rfl⟩) ?_
  have hE : f_X7_isCar g c = f_X7_in c.toInt64 0 (((g 0) - 1).toInt64) := (by rw [f_X7_isCar])
  exact W.zret (ty := .boolean) hx hb hr (nar_b (b_f_X7_in ..)) (fun t ht hW => ⟨by rw [hE], ht⟩) hS.2.2 dX7_isCar_12

theorem b_f_X7_isCar (g : Rw) (c : Int32) : f_X7_isCar g c = 0 ∨ f_X7_isCar g c = 1 := b_f_X7_in ..

def lp_gapFrom (g : Rw) : Nat → Nat → Nat
  | 0, k => k
  | n + 1, k => if 80 ≤ (nI k) then k else
    if (g (7 + k)) = (-1) then k else
    lp_gapFrom g n (k + 1)
def f_X7_gapFrom (g : Rw) (j : Nat) : Nat :=
  lp_gapFrom g (81 - j) j
set_option maxHeartbeats 4000000 in
set_option maxRecDepth 100000 in
theorem c_X7_gapFrom (l : Launch) (G : GG) (a : Nat) (g : Rw) (j : Nat) (hj : j ≤ 80) : Met l yX7_gapFrom wsX7_gapFrom ({ frames := 0, cells := 0, slots := 0, locals := 0 }) (PcH G [.ref a, .int (nI j)] (Arr G 0 a 327 g)) (QP (some (.int (nI (f_X7_gapFrom g j))))) 0 0 noA := by
  refine metH (cc := cX7_gapFrom) (maxL := 3) (ret := (some .int)) (by decide) rfl ?_
  intro p e s m below meth cd hx hb hr hml hown hts hlocks hP hO
  have hS : va_S noA s.heap s.heap [] := va_S.rf
  have hl := lv_entry ([.ref a, .int (nI j)]) (n := 3) (Nat.le_of_ble_eq_true rfl)
  rw [lg_entry_eq]
  generalize (lg_sl ([.ref a, .int (nI j)]) ++ List.replicate (3 - (lg_sl ([.ref a, .int (nI j)])).length) Slot.unset).toArray = ls at hl ⊢
  have hl : lv_has ls 3 [(0, .ref a), (1, .int (nI j))] := hl
  have loop2 : ∀ (n : Nat) (k : Nat) , k ≤ 80 → k + n = 81 → f_X7_gapFrom g j = lp_gapFrom g n k → ∀ (ls : Array Slot), lv_has ls 3 [(0, .ref a), (1, .int (nI j)), (2, .int (nI k))] → W p l e (headSpec wsX7_gapFrom ({ frames := 0, cells := 0, slots := 0, locals := 0 } : Room)).room s m ([.ref a, .int (nI j)] : List Value).toArray below meth cd s.heap [] 0 0 (MQ below (QP (some (.int (nI (f_X7_gapFrom g j))))) ([.ref a, .int (nI j)] : List Value).toArray s 0 0 noA) (F0 m 2 ls []) := by
    intro n
    induction n with
    | zero =>
      intro k hk hn hR ls hl
      exact absurd hn (by omega)
    | succ n ih =>
      intro k hk hn hR ls hl
      refine lv_iload_n hx hb dX7_gapFrom_2 rfl (lv_at hl 2 rfl) ?_
      refine lv_bipush (v := 80) hx hb dX7_gapFrom_3 (by decide) ?_
      refine lv_icmp_ge (tgt := 24) hx hb dX7_gapFrom_5 (by decide) (fun c_1 => ?_) (fun c_1 => ?_)
      · refine lv_iload_n hx hb dX7_gapFrom_24 rfl (lv_at hl 2 rfl) ?_
        have hE : f_X7_gapFrom g j = k := (hR.trans (by rw [lp_gapFrom, if_pos c_1]))
        exact W.iret hx hb hr (fun t ht hW => ⟨by rw [hE], ht⟩) hS.2.2 dX7_gapFrom_25
      · have hlt : k < 80 := kN (B := 80) c_1 (by omega) (by omega)
        refine lv_aload_n hx hb dX7_gapFrom_8 rfl (lv_at hl 0 rfl) ?_
        refine lv_bipush (v := 7) hx hb dX7_gapFrom_9 (by decide) ?_
        refine lv_iload_n hx hb dX7_gapFrom_11 rfl (lv_at hl 2 rfl) ?_
        refine iadd_n (a := 7) (b := k) hx hb dX7_gapFrom_12 ?_
        refine iald_n hx hb hO.1 hP 0 0 rfl rfl (by omega) (by decide) dX7_gapFrom_13 ?_
        refine lv_iconst (v := -1) hx hb dX7_gapFrom_14 (by decide) ?_
        refine lv_icmp_eq (tgt := 24) hx hb dX7_gapFrom_15 (by decide) (fun c_2 => ?_) (fun c_2 => ?_)
        · refine lv_iload_n hx hb dX7_gapFrom_24 rfl (lv_at hl 2 rfl) ?_
          have hE : f_X7_gapFrom g j = k := (hR.trans (by rw [lp_gapFrom, if_neg c_1, if_pos c_2]))
          exact W.iret hx hb hr (fun t ht hW => ⟨by rw [hE], ht⟩) hS.2.2 dX7_gapFrom_25
        · refine lv_iinc (v := nI (k + 1)) (lv' := [(2, .int (nI (k + 1))), (0, .ref a), (1, .int (nI j))]) hx hb dX7_gapFrom_18 hl (k := 2) rfl (nI_1 _) (by decide) rfl (fun ls hl => ?_)
          refine lv_goto (tgt := 2) hx hb dX7_gapFrom_21 (by decide) ?_
          have hE_3 : f_X7_gapFrom g j = lp_gapFrom g n (k + 1) := (hR.trans (by rw [lp_gapFrom, if_neg c_1, if_neg c_2]))
          exact ih (k + 1) (by omega) (by omega) hE_3 _ (lv_sub hl [1, 2, 0] rfl)
  refine lv_iload_n hx hb dX7_gapFrom_0 rfl (lv_at hl 1 rfl) ?_
  refine lv_istore_n (lv' := [(2, .int (nI j)), (0, .ref a), (1, .int (nI j))]) hx hb dX7_gapFrom_1 rfl hl (by decide) rfl (fun ls hl => ?_)
  have hE_4 : f_X7_gapFrom g j = lp_gapFrom g (81 - j) j := (by rw [f_X7_gapFrom])
  exact loop2 (81 - j) j hj (by omega) hE_4 _ (lv_sub hl [1, 2, 0] rfl)

def lp_gapCells (g : Rw) (j : Nat) : Nat → Nat → Nat
  | 0, k => k - j
  | n + 1, k => if 80 ≤ (nI k) then k - j else
    if (g (7 + k)) = (-1) then lp_gapCells g j n (k + 1) else
    k - j
def f_X7_gapCells (g : Rw) (j : Nat) : Nat :=
  lp_gapCells g j (81 - j) j
set_option maxHeartbeats 4000000 in
set_option maxRecDepth 100000 in
theorem c_X7_gapCells (l : Launch) (G : GG) (a : Nat) (g : Rw) (j : Nat) (hj : j ≤ 80) : Met l yX7_gapCells wsX7_gapCells ({ frames := 0, cells := 0, slots := 0, locals := 0 }) (PcH G [.ref a, .int (nI j)] (Arr G 0 a 327 g)) (QP (some (.int (nI (f_X7_gapCells g j))))) 0 0 noA := by
  refine metH (cc := cX7_gapCells) (maxL := 3) (ret := (some .int)) (by decide) rfl ?_
  intro p e s m below meth cd hx hb hr hml hown hts hlocks hP hO
  have hS : va_S noA s.heap s.heap [] := va_S.rf
  have hl := lv_entry ([.ref a, .int (nI j)]) (n := 3) (Nat.le_of_ble_eq_true rfl)
  rw [lg_entry_eq]
  generalize (lg_sl ([.ref a, .int (nI j)]) ++ List.replicate (3 - (lg_sl ([.ref a, .int (nI j)])).length) Slot.unset).toArray = ls at hl ⊢
  have hl : lv_has ls 3 [(0, .ref a), (1, .int (nI j))] := hl
  have loop2 : ∀ (n : Nat) (k : Nat) , k ≤ 80 → k + n = 81 → j ≤ k → f_X7_gapCells g j = lp_gapCells g j n k → ∀ (ls : Array Slot), lv_has ls 3 [(0, .ref a), (1, .int (nI j)), (2, .int (nI k))] → W p l e (headSpec wsX7_gapCells ({ frames := 0, cells := 0, slots := 0, locals := 0 } : Room)).room s m ([.ref a, .int (nI j)] : List Value).toArray below meth cd s.heap [] 0 0 (MQ below (QP (some (.int (nI (f_X7_gapCells g j))))) ([.ref a, .int (nI j)] : List Value).toArray s 0 0 noA) (F0 m 2 ls []) := by
    intro n
    induction n with
    | zero =>
      intro k hk hn hjk hR ls hl
      exact absurd hn (by omega)
    | succ n ih =>
      intro k hk hn hjk hR ls hl
      refine lv_iload_n hx hb dX7_gapCells_2 rfl (lv_at hl 2 rfl) ?_
      refine lv_bipush (v := 80) hx hb dX7_gapCells_3 (by decide) ?_
      refine lv_icmp_ge (tgt := 24) hx hb dX7_gapCells_5 (by decide) (fun c_1 => ?_) (fun c_1 => ?_)
      · refine lv_iload_n hx hb dX7_gapCells_24 rfl (lv_at hl 2 rfl) ?_
        refine lv_iload_n hx hb dX7_gapCells_25 rfl (lv_at hl 1 rfl) ?_
        refine isub_n (a := k) (b := j) hx hb hjk dX7_gapCells_26 ?_
        have hE : f_X7_gapCells g j = k - j := (hR.trans (by rw [lp_gapCells, if_pos c_1]))
        exact W.iret hx hb hr (fun t ht hW => ⟨by rw [hE], ht⟩) hS.2.2 dX7_gapCells_27
      · have hlt : k < 80 := kN (B := 80) c_1 (by omega) (by omega)
        refine lv_aload_n hx hb dX7_gapCells_8 rfl (lv_at hl 0 rfl) ?_
        refine lv_bipush (v := 7) hx hb dX7_gapCells_9 (by decide) ?_
        refine lv_iload_n hx hb dX7_gapCells_11 rfl (lv_at hl 2 rfl) ?_
        refine iadd_n (a := 7) (b := k) hx hb dX7_gapCells_12 ?_
        refine iald_n hx hb hO.1 hP 0 0 rfl rfl (by omega) (by decide) dX7_gapCells_13 ?_
        refine lv_iconst (v := -1) hx hb dX7_gapCells_14 (by decide) ?_
        refine lv_icmp_ne (tgt := 24) hx hb dX7_gapCells_15 (by decide) (fun c_2 => ?_) (fun c_2 => ?_)
        · refine lv_iload_n hx hb dX7_gapCells_24 rfl (lv_at hl 2 rfl) ?_
          refine lv_iload_n hx hb dX7_gapCells_25 rfl (lv_at hl 1 rfl) ?_
          refine isub_n (a := k) (b := j) hx hb hjk dX7_gapCells_26 ?_
          have hE : f_X7_gapCells g j = k - j := (hR.trans (by rw [lp_gapCells, if_neg c_1, if_neg c_2]))
          exact W.iret hx hb hr (fun t ht hW => ⟨by rw [hE], ht⟩) hS.2.2 dX7_gapCells_27
        · refine lv_iinc (v := nI (k + 1)) (lv' := [(2, .int (nI (k + 1))), (0, .ref a), (1, .int (nI j))]) hx hb dX7_gapCells_18 hl (k := 2) rfl (nI_1 _) (by decide) rfl (fun ls hl => ?_)
          refine lv_goto (tgt := 2) hx hb dX7_gapCells_21 (by decide) ?_
          have hE_3 : f_X7_gapCells g j = lp_gapCells g j n (k + 1) := (hR.trans (by rw [lp_gapCells, if_neg c_1, if_pos c_2]))
          exact ih (k + 1) (by omega) (by omega) (by omega) hE_3 _ (lv_sub hl [1, 2, 0] rfl)
  refine lv_iload_n hx hb dX7_gapCells_0 rfl (lv_at hl 1 rfl) ?_
  refine lv_istore_n (lv' := [(2, .int (nI j)), (0, .ref a), (1, .int (nI j))]) hx hb dX7_gapCells_1 rfl hl (by decide) rfl (fun ls hl => ?_)
  have hE_4 : f_X7_gapCells g j = lp_gapCells g j (81 - j) j := (by rw [f_X7_gapCells])
  exact loop2 (81 - j) j hj (by omega) (Nat.le_refl _) hE_4 _ (lv_sub hl [1, 2, 0] rfl)

theorem lpFrom_le (g : Rw) : ∀ (n k : Nat), k ≤ 80 → k + n = 81 → k ≤ lp_gapFrom g n k ∧ lp_gapFrom g n k ≤ 80 := by
  intro n
  induction n with
  | zero => intro k hk hn; omega
  | succ n ih =>
    intro k hk hn
    rw [lp_gapFrom]
    split
    · exact ⟨Nat.le_refl _, hk⟩
    · rename_i c1
      split
      · exact ⟨Nat.le_refl _, hk⟩
      · have h9 : k < 80 := kN (B := 80) c1 (by omega) (by omega)
        have h8 := ih (k + 1) (by omega) (by omega)
        omega
theorem from_le (g : Rw) {j : Nat} (hj : j ≤ 80) : j ≤ f_X7_gapFrom g j ∧ f_X7_gapFrom g j ≤ 80 := lpFrom_le g _ _ hj (by omega)
theorem lpCells_le (g : Rw) (j : Nat) : ∀ (n k : Nat), k ≤ 80 → k + n = 81 → j ≤ k → k - j ≤ lp_gapCells g j n k ∧ j + lp_gapCells g j n k ≤ 80 := by
  intro n
  induction n with
  | zero => intro k hk hn; omega
  | succ n ih =>
    intro k hk hn hj
    rw [lp_gapCells]
    split
    · omega
    · rename_i c1
      split
      · have h9 : k < 80 := kN (B := 80) c1 (by omega) (by omega)
        have h8 := ih (k + 1) (by omega) (by omega) (by omega)
        omega
      · omega
theorem cells_le (g : Rw) {j : Nat} (hj : j ≤ 80) : j + f_X7_gapCells g j ≤ 80 := (lpCells_le g j _ _ hj (by omega) (Nat.le_refl _)).2
