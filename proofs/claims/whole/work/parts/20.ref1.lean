section QN
variable {p : Program} {l : Launch} {e : Env} {R : Room} {s : State} {m : MethodId} {args : Array Value} {below : List Frame} {meth : Method} {c : Code} {H : Heap} {locs : List Loc} {cells slots : Nat} {Q : State → Prop} {cc : ByteArray} {pc : Nat} {ls : Array Slot} {rest : List Value}
theorem isub_n (hexec : p.tables.exec = Jvm.exec) (hb : c.code = cc) {a b : Nat} (hab : b ≤ a) (hdg : decode cc pc = .ok (.isub, 1))
    (k : W p l e R s m args below meth c H locs cells slots Q (F0 m (pc + 1) ls (.int (nI (a - b)) :: rest))) : W p l e R s m args below meth c H locs cells slots Q (F0 m pc ls (.int (nI b) :: .int (nI a) :: rest)) := by
  refine lv_isub hexec hb hdg ?_
  rw [pk_sub hab]
  exact k
end QN
theorem kN1 {B k : Nat} (h : ¬ nI B ≤ nI k) (hB : B < 2 ^ 31) (hk : k < 2 ^ 31) : k < B := Nat.not_le.mp fun q => h (nI_le q hk)
/-- the first cell from x on that has no gap's end: 80 if there is none -/

def f_X7_in (v : Int64) (lo : Int64) (hi : Int64) : Int32 :=
  if (lg_cmp v lo) < 0 then 0 else
  if 0 < (lg_cmp v hi) then 0 else
  1
set_option maxHeartbeats 4000000 in
set_option maxRecDepth 100000 in
theorem c_X7_in (l : Launch) (G : GG) (v : Int64) (lo : Int64) (hi : Int64) : Met l yX7_in wsX7_in ({ frames := 0, cells := 0, slots := 0, locals := 0 }) (PcH G [.long v, .long lo, .long hi] (fun _ => True)) (QP (some (.int (f_X7_in v lo hi)))) 0 0 noA := by
  refine metH (cc := cX7_in) (maxL := 6) (ret := (some .boolean)) (by decide) rfl ?_
  intro p e s m below meth cd hx hb hr hml hown hts hlocks hP hO
  have hS : va_S noA s.heap s.heap [] := va_S.rf
  have hl := lv_entry ([.long v, .long lo, .long hi]) (n := 6) (Nat.le_of_ble_eq_true rfl)
  rw [lg_entry_eq]
  generalize (lg_sl ([.long v, .long lo, .long hi]) ++ List.replicate (6 - (lg_sl ([.long v, .long lo, .long hi])).length) Slot.unset).toArray = ls at hl ⊢
  have hl : lv_has ls 6 [(0, .long v), (2, .long lo), (4, .long hi)] := hl
  refine lv_lload_n hx hb dX7_in_0 rfl (lv_at hl 0 rfl) ?_
  refine lv_lload_n hx hb dX7_in_1 rfl (lv_at hl 1 rfl) ?_
  refine W.lcmp hx hb dX7_in_2 ?_
  refine lv_if_lt (tgt := 17) hx hb dX7_in_3 (by decide) (fun c_1 => ?_) (fun c_1 => ?_)
  · refine lv_iconst (v := 0) hx hb dX7_in_17 (by decide) ?_
    have hE : f_X7_in v lo hi = 0 := (by rw [f_X7_in, if_pos c_1])
    exact W.zret (ty := .boolean) hx hb hr rfl (fun t ht hW => ⟨by rw [hE], ht⟩) hS.2.2 dX7_in_18
  · refine lv_lload_n hx hb dX7_in_6 rfl (lv_at hl 0 rfl) ?_
    refine lv_lload hx hb dX7_in_7 (lv_at hl 2 rfl) ?_
    refine W.lcmp hx hb dX7_in_9 ?_
    refine lv_if_gt (tgt := 17) hx hb dX7_in_10 (by decide) (fun c_2 => ?_) (fun c_2 => ?_)
    · refine lv_iconst (v := 0) hx hb dX7_in_17 (by decide) ?_
      have hE : f_X7_in v lo hi = 0 := (by rw [f_X7_in, if_neg c_1, if_pos c_2])
      exact W.zret (ty := .boolean) hx hb hr rfl (fun t ht hW => ⟨by rw [hE], ht⟩) hS.2.2 dX7_in_18
    · refine lv_iconst (v := 1) hx hb dX7_in_13 (by decide) ?_
      refine lv_goto (tgt := 18) hx hb dX7_in_14 (by decide) ?_
      have hE : f_X7_in v lo hi = 1 := (by rw [f_X7_in, if_neg c_1, if_neg c_2])
      exact W.zret (ty := .boolean) hx hb hr rfl (fun t ht hW => ⟨by rw [hE], ht⟩) hS.2.2 dX7_in_18

theorem b_f_X7_in (v : Int64) (lo : Int64) (hi : Int64) : f_X7_in v lo hi = 0 ∨ f_X7_in v lo hi = 1 := by
  unfold f_X7_in
  repeat' split
  all_goals first | exact Or.inl rfl | exact Or.inr rfl

def f_X7_isCell (x : Int32) : Int32 :=
  f_X7_in x.toInt64 0 79
set_option maxHeartbeats 4000000 in
set_option maxRecDepth 100000 in
theorem c_X7_isCell (l : Launch) (G : GG) (x : Int32) : Met l yX7_isCell wsX7_isCell ({ frames := 1, cells := 0, slots := 0, locals := 25 }) (PcH G [.int x] (fun _ => True)) (QP (some (.int (f_X7_isCell x)))) 0 0 noA := by
  refine metH (cc := cX7_isCell) (maxL := 1) (ret := (some .boolean)) (by decide) rfl ?_
  intro p e s m below meth cd hx hb hr hml hown hts hlocks hP hO
  have hS : va_S noA s.heap s.heap [] := va_S.rf
  have hl := lv_entry ([.int x]) (n := 1) (Nat.le_of_ble_eq_true rfl)
  rw [lg_entry_eq]
  generalize (lg_sl ([.int x]) ++ List.replicate (1 - (lg_sl ([.int x])).length) Slot.unset).toArray = ls at hl ⊢
  have hl : lv_has ls 1 [(0, .int x)] := hl
  refine lv_iload_n hx hb dX7_isCell_0 rfl (lv_at hl 0 rfl) ?_
  refine lv_i2l (v := x.toInt64) hx hb dX7_isCell_1 rfl ?_
  refine lv_lconst (v := 0) hx hb dX7_isCell_2 (by decide) ?_
  refine lv_ldc2 (v := 79) hx hb hown (hts (.constantLong RX7 52 (79)) (by decide +kernel)) dX7_isCell_3 ?_
  refine cl_pi (rS (As := [.long x.toInt64, .long 0, .long 79]) (rest := []) ⟨hx, hb, hml, hown, hts⟩ (c_X7_in l G x.toInt64 0 79) (va_cwS 3 hts gX7_isCell_X7_in rfl rfl rfl (by decide +kernel) ⟨Nat.le_of_ble_eq_true rfl, Nat.le_of_ble_eq_true rfl⟩) trivial hO rfl hl.1 (Nat.le_of_ble_eq_true rfl) dX7_isCell_6 ⟨Nat.le_of_ble_eq_true rfl, Nat.le_of_ble_eq_true rfl⟩) ?_
  have hE : f_X7_isCell x = f_X7_in x.toInt64 0 79 := (by rw [f_X7_isCell])
  exact W.zret (ty := .boolean) hx hb hr (nar_b (b_f_X7_in ..)) (fun t ht hW => ⟨by rw [hE], ht⟩) hS.2.2 dX7_isCell_9

theorem b_f_X7_isCell (x : Int32) : f_X7_isCell x = 0 ∨ f_X7_isCell x = 1 := b_f_X7_in ..

def f_X7_isLength (x : Int32) : Int32 :=
  f_X7_in x.toInt64 2 8
set_option maxHeartbeats 4000000 in
set_option maxRecDepth 100000 in
theorem c_X7_isLength (l : Launch) (G : GG) (x : Int32) : Met l yX7_isLength wsX7_isLength ({ frames := 1, cells := 0, slots := 0, locals := 25 }) (PcH G [.int x] (fun _ => True)) (QP (some (.int (f_X7_isLength x)))) 0 0 noA := by
  refine metH (cc := cX7_isLength) (maxL := 1) (ret := (some .boolean)) (by decide) rfl ?_
  intro p e s m below meth cd hx hb hr hml hown hts hlocks hP hO
  have hS : va_S noA s.heap s.heap [] := va_S.rf
  have hl := lv_entry ([.int x]) (n := 1) (Nat.le_of_ble_eq_true rfl)
  rw [lg_entry_eq]
  generalize (lg_sl ([.int x]) ++ List.replicate (1 - (lg_sl ([.int x])).length) Slot.unset).toArray = ls at hl ⊢
  have hl : lv_has ls 1 [(0, .int x)] := hl
  refine lv_iload_n hx hb dX7_isLength_0 rfl (lv_at hl 0 rfl) ?_
  refine lv_i2l (v := x.toInt64) hx hb dX7_isLength_1 rfl ?_
  refine lv_ldc2 (v := 2) hx hb hown (hts (.constantLong RX7 54 (2)) (by decide +kernel)) dX7_isLength_2 ?_
  refine lv_ldc2 (v := 8) hx hb hown (hts (.constantLong RX7 56 (8)) (by decide +kernel)) dX7_isLength_5 ?_
  refine cl_pi (rS (As := [.long x.toInt64, .long 2, .long 8]) (rest := []) ⟨hx, hb, hml, hown, hts⟩ (c_X7_in l G x.toInt64 2 8) (va_cwS 3 hts gX7_isLength_X7_in rfl rfl rfl (by decide +kernel) ⟨Nat.le_of_ble_eq_true rfl, Nat.le_of_ble_eq_true rfl⟩) trivial hO rfl hl.1 (Nat.le_of_ble_eq_true rfl) dX7_isLength_8 ⟨Nat.le_of_ble_eq_true rfl, Nat.le_of_ble_eq_true rfl⟩) ?_
  have hE : f_X7_isLength x = f_X7_in x.toInt64 2 8 := (by rw [f_X7_isLength])
  exact W.zret (ty := .boolean) hx hb hr (nar_b (b_f_X7_in ..)) (fun t ht hW => ⟨by rw [hE], ht⟩) hS.2.2 dX7_isLength_11

theorem b_f_X7_isLength (x : Int32) : f_X7_isLength x = 0 ∨ f_X7_isLength x = 1 := b_f_X7_in ..

def f_X7_isSetting (w : Int32) (v : Int32) : Int32 :=
  if w = 0 then (if (f_X7_in v.toInt64 0 2) = 0 then (if w = 1 then (if (f_X7_in v.toInt64 0 4) = 0 then (if w = 2 then (if (f_X7_in v.toInt64 1 30) = 0 then 0 else
            1) else
          0) else
        1) else
      if w = 2 then (if (f_X7_in v.toInt64 1 30) = 0 then 0 else
        1) else
      0) else
    1) else
  if w = 1 then (if (f_X7_in v.toInt64 0 4) = 0 then (if w = 2 then (if (f_X7_in v.toInt64 1 30) = 0 then 0 else
        1) else
      0) else
    1) else
  if w = 2 then (if (f_X7_in v.toInt64 1 30) = 0 then 0 else
    1) else
  0
set_option maxHeartbeats 4000000 in
set_option maxRecDepth 100000 in
theorem c_X7_isSetting (l : Launch) (G : GG) (w : Int32) (v : Int32) : Met l yX7_isSetting wsX7_isSetting ({ frames := 1, cells := 0, slots := 0, locals := 25 }) (PcH G [.int w, .int v] (fun _ => True)) (QP (some (.int (f_X7_isSetting w v)))) 0 0 noA := by
  refine metH (cc := cX7_isSetting) (maxL := 2) (ret := (some .boolean)) (by decide) rfl ?_
  intro p e s m below meth cd hx hb hr hml hown hts hlocks hP hO
  have hS : va_S noA s.heap s.heap [] := va_S.rf
  have hl := lv_entry ([.int w, .int v]) (n := 2) (Nat.le_of_ble_eq_true rfl)
  rw [lg_entry_eq]
  generalize (lg_sl ([.int w, .int v]) ++ List.replicate (2 - (lg_sl ([.int w, .int v])).length) Slot.unset).toArray = ls at hl ⊢
  have hl : lv_has ls 2 [(0, .int w), (1, .int v)] := hl
  refine lv_iload_n hx hb dX7_isSetting_0 rfl (lv_at hl 0 rfl) ?_
  refine lv_if_ne (tgt := 16) hx hb dX7_isSetting_1 (by decide) (fun c_1 => ?_) (fun c_1 => ?_)
  · refine lv_iload_n hx hb dX7_isSetting_16 rfl (lv_at hl 0 rfl) ?_
    refine lv_iconst (v := 1) hx hb dX7_isSetting_17 (by decide) ?_
    refine lv_icmp_ne (tgt := 33) hx hb dX7_isSetting_18 (by decide) (fun c_2 => ?_) (fun c_2 => ?_)
    · refine lv_iload_n hx hb dX7_isSetting_33 rfl (lv_at hl 0 rfl) ?_
      refine lv_iconst (v := 2) hx hb dX7_isSetting_34 (by decide) ?_
      refine lv_icmp_ne (tgt := 54) hx hb dX7_isSetting_35 (by decide) (fun c_3 => ?_) (fun c_3 => ?_)
      · refine lv_iconst (v := 0) hx hb dX7_isSetting_54 (by decide) ?_
        have hE : f_X7_isSetting w v = 0 := (by rw [f_X7_isSetting, if_neg c_1, if_neg c_2, if_neg c_3])
        exact W.zret (ty := .boolean) hx hb hr rfl (fun t ht hW => ⟨by rw [hE], ht⟩) hS.2.2 dX7_isSetting_55
      · refine lv_iload_n hx hb dX7_isSetting_38 rfl (lv_at hl 1 rfl) ?_
        refine lv_i2l (v := v.toInt64) hx hb dX7_isSetting_39 rfl ?_
        refine lv_lconst (v := 1) hx hb dX7_isSetting_40 (by decide) ?_
        refine lv_ldc2 (v := 30) hx hb hown (hts (.constantLong RX7 60 (30)) (by decide +kernel)) dX7_isSetting_41 ?_
        refine cl_pi (rS (As := [.long v.toInt64, .long 1, .long 30]) (rest := []) ⟨hx, hb, hml, hown, hts⟩ (c_X7_in l G v.toInt64 1 30) (va_cwS 3 hts gX7_isSetting_X7_in rfl rfl rfl (by decide +kernel) ⟨Nat.le_of_ble_eq_true rfl, Nat.le_of_ble_eq_true rfl⟩) trivial hO rfl hl.1 (Nat.le_of_ble_eq_true rfl) dX7_isSetting_44 ⟨Nat.le_of_ble_eq_true rfl, Nat.le_of_ble_eq_true rfl⟩) ?_
        refine lv_if_eq (tgt := 54) hx hb dX7_isSetting_47 (by decide) (fun c_4 => ?_) (fun c_4 => ?_)
        · refine lv_iconst (v := 0) hx hb dX7_isSetting_54 (by decide) ?_
          have hE : f_X7_isSetting w v = 0 := (by rw [f_X7_isSetting, if_neg c_1, if_neg c_2, if_pos c_3, if_pos c_4])
          exact W.zret (ty := .boolean) hx hb hr rfl (fun t ht hW => ⟨by rw [hE], ht⟩) hS.2.2 dX7_isSetting_55
        · refine lv_iconst (v := 1) hx hb dX7_isSetting_50 (by decide) ?_
          refine lv_goto (tgt := 55) hx hb dX7_isSetting_51 (by decide) ?_
          have hE : f_X7_isSetting w v = 1 := (by rw [f_X7_isSetting, if_neg c_1, if_neg c_2, if_pos c_3, if_neg c_4])
          exact W.zret (ty := .boolean) hx hb hr rfl (fun t ht hW => ⟨by rw [hE], ht⟩) hS.2.2 dX7_isSetting_55
    · refine lv_iload_n hx hb dX7_isSetting_21 rfl (lv_at hl 1 rfl) ?_
      refine lv_i2l (v := v.toInt64) hx hb dX7_isSetting_22 rfl ?_
      refine lv_lconst (v := 0) hx hb dX7_isSetting_23 (by decide) ?_
      refine lv_ldc2 (v := 4) hx hb hown (hts (.constantLong RX7 58 (4)) (by decide +kernel)) dX7_isSetting_24 ?_
      refine cl_pi (rS (As := [.long v.toInt64, .long 0, .long 4]) (rest := []) ⟨hx, hb, hml, hown, hts⟩ (c_X7_in l G v.toInt64 0 4) (va_cwS 3 hts gX7_isSetting_X7_in rfl rfl rfl (by decide +kernel) ⟨Nat.le_of_ble_eq_true rfl, Nat.le_of_ble_eq_true rfl⟩) trivial hO rfl hl.1 (Nat.le_of_ble_eq_true rfl) dX7_isSetting_27 ⟨Nat.le_of_ble_eq_true rfl, Nat.le_of_ble_eq_true rfl⟩) ?_
      refine lv_if_ne (tgt := 50) hx hb dX7_isSetting_30 (by decide) (fun c_5 => ?_) (fun c_5 => ?_)
      · refine lv_iconst (v := 1) hx hb dX7_isSetting_50 (by decide) ?_
        refine lv_goto (tgt := 55) hx hb dX7_isSetting_51 (by decide) ?_
        have hE : f_X7_isSetting w v = 1 := (by rw [f_X7_isSetting, if_neg c_1, if_pos c_2, if_neg c_5])
        exact W.zret (ty := .boolean) hx hb hr rfl (fun t ht hW => ⟨by rw [hE], ht⟩) hS.2.2 dX7_isSetting_55
      · refine lv_iload_n hx hb dX7_isSetting_33 rfl (lv_at hl 0 rfl) ?_
        refine lv_iconst (v := 2) hx hb dX7_isSetting_34 (by decide) ?_
        refine lv_icmp_ne (tgt := 54) hx hb dX7_isSetting_35 (by decide) (fun c_6 => ?_) (fun c_6 => ?_)
        · refine lv_iconst (v := 0) hx hb dX7_isSetting_54 (by decide) ?_
          have hE : f_X7_isSetting w v = 0 := (by rw [f_X7_isSetting, if_neg c_1, if_pos c_2, if_pos c_5, if_neg c_6])
          exact W.zret (ty := .boolean) hx hb hr rfl (fun t ht hW => ⟨by rw [hE], ht⟩) hS.2.2 dX7_isSetting_55
        · refine lv_iload_n hx hb dX7_isSetting_38 rfl (lv_at hl 1 rfl) ?_
          refine lv_i2l (v := v.toInt64) hx hb dX7_isSetting_39 rfl ?_
          refine lv_lconst (v := 1) hx hb dX7_isSetting_40 (by decide) ?_
          refine lv_ldc2 (v := 30) hx hb hown (hts (.constantLong RX7 60 (30)) (by decide +kernel)) dX7_isSetting_41 ?_
          refine cl_pi (rS (As := [.long v.toInt64, .long 1, .long 30]) (rest := []) ⟨hx, hb, hml, hown, hts⟩ (c_X7_in l G v.toInt64 1 30) (va_cwS 3 hts gX7_isSetting_X7_in rfl rfl rfl (by decide +kernel) ⟨Nat.le_of_ble_eq_true rfl, Nat.le_of_ble_eq_true rfl⟩) trivial hO rfl hl.1 (Nat.le_of_ble_eq_true rfl) dX7_isSetting_44 ⟨Nat.le_of_ble_eq_true rfl, Nat.le_of_ble_eq_true rfl⟩) ?_
          refine lv_if_eq (tgt := 54) hx hb dX7_isSetting_47 (by decide) (fun c_7 => ?_) (fun c_7 => ?_)
          · refine lv_iconst (v := 0) hx hb dX7_isSetting_54 (by decide) ?_
            have hE : f_X7_isSetting w v = 0 := (by rw [f_X7_isSetting, if_neg c_1, if_pos c_2, if_pos c_5, if_pos c_6, if_pos c_7])
            exact W.zret (ty := .boolean) hx hb hr rfl (fun t ht hW => ⟨by rw [hE], ht⟩) hS.2.2 dX7_isSetting_55
          · refine lv_iconst (v := 1) hx hb dX7_isSetting_50 (by decide) ?_
            refine lv_goto (tgt := 55) hx hb dX7_isSetting_51 (by decide) ?_
            have hE : f_X7_isSetting w v = 1 := (by rw [f_X7_isSetting, if_neg c_1, if_pos c_2, if_pos c_5, if_pos c_6, if_neg c_7])
            exact W.zret (ty := .boolean) hx hb hr rfl (fun t ht hW => ⟨by rw [hE], ht⟩) hS.2.2 dX7_isSetting_55
  · refine lv_iload_n hx hb dX7_isSetting_4 rfl (lv_at hl 1 rfl) ?_
    refine lv_i2l (v := v.toInt64) hx hb dX7_isSetting_5 rfl ?_
    refine lv_lconst (v := 0) hx hb dX7_isSetting_6 (by decide) ?_
    refine lv_ldc2 (v := 2) hx hb hown (hts (.constantLong RX7 54 (2)) (by decide +kernel)) dX7_isSetting_7 ?_
    refine cl_pi (rS (As := [.long v.toInt64, .long 0, .long 2]) (rest := []) ⟨hx, hb, hml, hown, hts⟩ (c_X7_in l G v.toInt64 0 2) (va_cwS 3 hts gX7_isSetting_X7_in rfl rfl rfl (by decide +kernel) ⟨Nat.le_of_ble_eq_true rfl, Nat.le_of_ble_eq_true rfl⟩) trivial hO rfl hl.1 (Nat.le_of_ble_eq_true rfl) dX7_isSetting_10 ⟨Nat.le_of_ble_eq_true rfl, Nat.le_of_ble_eq_true rfl⟩) ?_
    refine lv_if_ne (tgt := 50) hx hb dX7_isSetting_13 (by decide) (fun c_8 => ?_) (fun c_8 => ?_)
    · refine lv_iconst (v := 1) hx hb dX7_isSetting_50 (by decide) ?_
      refine lv_goto (tgt := 55) hx hb dX7_isSetting_51 (by decide) ?_
      have hE : f_X7_isSetting w v = 1 := (by rw [f_X7_isSetting, if_pos c_1, if_neg c_8])
      exact W.zret (ty := .boolean) hx hb hr rfl (fun t ht hW => ⟨by rw [hE], ht⟩) hS.2.2 dX7_isSetting_55
    · refine lv_iload_n hx hb dX7_isSetting_16 rfl (lv_at hl 0 rfl) ?_
      refine lv_iconst (v := 1) hx hb dX7_isSetting_17 (by decide) ?_
      refine lv_icmp_ne (tgt := 33) hx hb dX7_isSetting_18 (by decide) (fun c_9 => ?_) (fun c_9 => ?_)
      · refine lv_iload_n hx hb dX7_isSetting_33 rfl (lv_at hl 0 rfl) ?_
        refine lv_iconst (v := 2) hx hb dX7_isSetting_34 (by decide) ?_
        refine lv_icmp_ne (tgt := 54) hx hb dX7_isSetting_35 (by decide) (fun c_10 => ?_) (fun c_10 => ?_)
        · refine lv_iconst (v := 0) hx hb dX7_isSetting_54 (by decide) ?_
          have hE : f_X7_isSetting w v = 0 := (by rw [f_X7_isSetting, if_pos c_1, if_pos c_8, if_neg c_9, if_neg c_10])
          exact W.zret (ty := .boolean) hx hb hr rfl (fun t ht hW => ⟨by rw [hE], ht⟩) hS.2.2 dX7_isSetting_55
        · refine lv_iload_n hx hb dX7_isSetting_38 rfl (lv_at hl 1 rfl) ?_
          refine lv_i2l (v := v.toInt64) hx hb dX7_isSetting_39 rfl ?_
          refine lv_lconst (v := 1) hx hb dX7_isSetting_40 (by decide) ?_
          refine lv_ldc2 (v := 30) hx hb hown (hts (.constantLong RX7 60 (30)) (by decide +kernel)) dX7_isSetting_41 ?_
          refine cl_pi (rS (As := [.long v.toInt64, .long 1, .long 30]) (rest := []) ⟨hx, hb, hml, hown, hts⟩ (c_X7_in l G v.toInt64 1 30) (va_cwS 3 hts gX7_isSetting_X7_in rfl rfl rfl (by decide +kernel) ⟨Nat.le_of_ble_eq_true rfl, Nat.le_of_ble_eq_true rfl⟩) trivial hO rfl hl.1 (Nat.le_of_ble_eq_true rfl) dX7_isSetting_44 ⟨Nat.le_of_ble_eq_true rfl, Nat.le_of_ble_eq_true rfl⟩) ?_
          refine lv_if_eq (tgt := 54) hx hb dX7_isSetting_47 (by decide) (fun c_11 => ?_) (fun c_11 => ?_)
          · refine lv_iconst (v := 0) hx hb dX7_isSetting_54 (by decide) ?_
            have hE : f_X7_isSetting w v = 0 := (by rw [f_X7_isSetting, if_pos c_1, if_pos c_8, if_neg c_9, if_pos c_10, if_pos c_11])
            exact W.zret (ty := .boolean) hx hb hr rfl (fun t ht hW => ⟨by rw [hE], ht⟩) hS.2.2 dX7_isSetting_55
          · refine lv_iconst (v := 1) hx hb dX7_isSetting_50 (by decide) ?_
            refine lv_goto (tgt := 55) hx hb dX7_isSetting_51 (by decide) ?_
            have hE : f_X7_isSetting w v = 1 := (by rw [f_X7_isSetting, if_pos c_1, if_pos c_8, if_neg c_9, if_pos c_10, if_neg c_11])
            exact W.zret (ty := .boolean) hx hb hr rfl (fun t ht hW => ⟨by rw [hE], ht⟩) hS.2.2 dX7_isSetting_55
      · refine lv_iload_n hx hb dX7_isSetting_21 rfl (lv_at hl 1 rfl) ?_
        refine lv_i2l (v := v.toInt64) hx hb dX7_isSetting_22 rfl ?_
        refine lv_lconst (v := 0) hx hb dX7_isSetting_23 (by decide) ?_
        refine lv_ldc2 (v := 4) hx hb hown (hts (.constantLong RX7 58 (4)) (by decide +kernel)) dX7_isSetting_24 ?_
        refine cl_pi (rS (As := [.long v.toInt64, .long 0, .long 4]) (rest := []) ⟨hx, hb, hml, hown, hts⟩ (c_X7_in l G v.toInt64 0 4) (va_cwS 3 hts gX7_isSetting_X7_in rfl rfl rfl (by decide +kernel) ⟨Nat.le_of_ble_eq_true rfl, Nat.le_of_ble_eq_true rfl⟩) trivial hO rfl hl.1 (Nat.le_of_ble_eq_true rfl) dX7_isSetting_27 ⟨Nat.le_of_ble_eq_true rfl, Nat.le_of_ble_eq_true rfl⟩) ?_
        refine lv_if_ne (tgt := 50) hx hb dX7_isSetting_30 (by decide) (fun c_12 => ?_) (fun c_12 => ?_)
        · refine lv_iconst (v := 1) hx hb dX7_isSetting_50 (by decide) ?_
          refine lv_goto (tgt := 55) hx hb dX7_isSetting_51 (by decide) ?_
          have hE : f_X7_isSetting w v = 1 := (by rw [f_X7_isSetting, if_pos c_1, if_pos c_8, if_pos c_9, if_neg c_12])
          exact W.zret (ty := .boolean) hx hb hr rfl (fun t ht hW => ⟨by rw [hE], ht⟩) hS.2.2 dX7_isSetting_55
        · refine lv_iload_n hx hb dX7_isSetting_33 rfl (lv_at hl 0 rfl) ?_
          refine lv_iconst (v := 2) hx hb dX7_isSetting_34 (by decide) ?_
          refine lv_icmp_ne (tgt := 54) hx hb dX7_isSetting_35 (by decide) (fun c_13 => ?_) (fun c_13 => ?_)
          · refine lv_iconst (v := 0) hx hb dX7_isSetting_54 (by decide) ?_
            have hE : f_X7_isSetting w v = 0 := (by rw [f_X7_isSetting, if_pos c_1, if_pos c_8, if_pos c_9, if_pos c_12, if_neg c_13])
            exact W.zret (ty := .boolean) hx hb hr rfl (fun t ht hW => ⟨by rw [hE], ht⟩) hS.2.2 dX7_isSetting_55
          · refine lv_iload_n hx hb dX7_isSetting_38 rfl (lv_at hl 1 rfl) ?_
            refine lv_i2l (v := v.toInt64) hx hb dX7_isSetting_39 rfl ?_
            refine lv_lconst (v := 1) hx hb dX7_isSetting_40 (by decide) ?_
            refine lv_ldc2 (v := 30) hx hb hown (hts (.constantLong RX7 60 (30)) (by decide +kernel)) dX7_isSetting_41 ?_
            refine cl_pi (rS (As := [.long v.toInt64, .long 1, .long 30]) (rest := []) ⟨hx, hb, hml, hown, hts⟩ (c_X7_in l G v.toInt64 1 30) (va_cwS 3 hts gX7_isSetting_X7_in rfl rfl rfl (by decide +kernel) ⟨Nat.le_of_ble_eq_true rfl, Nat.le_of_ble_eq_true rfl⟩) trivial hO rfl hl.1 (Nat.le_of_ble_eq_true rfl) dX7_isSetting_44 ⟨Nat.le_of_ble_eq_true rfl, Nat.le_of_ble_eq_true rfl⟩) ?_
            refine lv_if_eq (tgt := 54) hx hb dX7_isSetting_47 (by decide) (fun c_14 => ?_) (fun c_14 => ?_)
            · refine lv_iconst (v := 0) hx hb dX7_isSetting_54 (by decide) ?_
              have hE : f_X7_isSetting w v = 0 := (by rw [f_X7_isSetting, if_pos c_1, if_pos c_8, if_pos c_9, if_pos c_12, if_pos c_13, if_pos c_14])
              exact W.zret (ty := .boolean) hx hb hr rfl (fun t ht hW => ⟨by rw [hE], ht⟩) hS.2.2 dX7_isSetting_55
            · refine lv_iconst (v := 1) hx hb dX7_isSetting_50 (by decide) ?_
              refine lv_goto (tgt := 55) hx hb dX7_isSetting_51 (by decide) ?_
              have hE : f_X7_isSetting w v = 1 := (by rw [f_X7_isSetting, if_pos c_1, if_pos c_8, if_pos c_9, if_pos c_12, if_pos c_13, if_neg c_14])
              exact W.zret (ty := .boolean) hx hb hr rfl (fun t ht hW => ⟨by rw [hE], ht⟩) hS.2.2 dX7_isSetting_55

theorem b_f_X7_isSetting (w : Int32) (v : Int32) : f_X7_isSetting w v = 0 ∨ f_X7_isSetting w v = 1 := by
  unfold f_X7_isSetting
  repeat' split
  all_goals first | exact Or.inl rfl | exact Or.inr rfl

def f_X7_of (g : Rw) (c : Nat) (w : Nat) : Int32 :=
  g ((87 + (6 * c)) + w)
set_option maxHeartbeats 4000000 in
set_option maxRecDepth 100000 in
theorem c_X7_of (l : Launch) (G : GG) (a : Nat) (g : Rw) (c : Nat) (w : Nat) (h : 87 + 6 * c + w < 327) : Met l yX7_of wsX7_of ({ frames := 0, cells := 0, slots := 0, locals := 0 }) (PcH G [.ref a, .int (nI c), .int (nI w)] (Arr G 0 a 327 g)) (QP (some (.int (f_X7_of g c w)))) 0 0 noA := by
  refine metH (cc := cX7_of) (maxL := 3) (ret := (some .int)) (by decide) rfl ?_
  intro p e s m below meth cd hx hb hr hml hown hts hlocks hP hO
  have hS : va_S noA s.heap s.heap [] := va_S.rf
  have hl := lv_entry ([.ref a, .int (nI c), .int (nI w)]) (n := 3) (Nat.le_of_ble_eq_true rfl)
  rw [lg_entry_eq]
  generalize (lg_sl ([.ref a, .int (nI c), .int (nI w)]) ++ List.replicate (3 - (lg_sl ([.ref a, .int (nI c), .int (nI w)])).length) Slot.unset).toArray = ls at hl ⊢
  have hl : lv_has ls 3 [(0, .ref a), (1, .int (nI c)), (2, .int (nI w))] := hl
  refine lv_aload_n hx hb dX7_of_0 rfl (lv_at hl 0 rfl) ?_
  refine lv_bipush (v := 87) hx hb dX7_of_1 (by decide) ?_
  refine lv_bipush (v := 6) hx hb dX7_of_3 (by decide) ?_
  refine lv_iload_n hx hb dX7_of_5 rfl (lv_at hl 1 rfl) ?_
  refine imul_n (a := 6) (b := c) hx hb dX7_of_6 ?_
  refine iadd_n (a := 87) (b := 6 * c) hx hb dX7_of_7 ?_
  refine lv_iload_n hx hb dX7_of_8 rfl (lv_at hl 2 rfl) ?_
  refine iadd_n (a := 87 + (6 * c)) (b := w) hx hb dX7_of_9 ?_
  refine iald_n hx hb hO.1 hP 0 0 rfl rfl (by omega) (by decide) dX7_of_10 ?_
  have hE : f_X7_of g c w = g ((87 + (6 * c)) + w) := (by rw [f_X7_of])
  exact W.iret hx hb hr (fun t ht hW => ⟨by rw [hE], ht⟩) hS.2.2 dX7_of_11

def h_X7_lay (g : Rw) (c : Nat) (w : Nat) (v : Int32) : Rw :=
  (upd g ((87 + (6 * c)) + w) v)
set_option maxHeartbeats 4000000 in
set_option maxRecDepth 100000 in
theorem c_X7_lay (l : Launch) (G : GG) (a : Nat) (g : Rw) (c : Nat) (w : Nat) (v : Int32) (h : 87 + 6 * c + w < 327) : Met l yX7_lay wsX7_lay ({ frames := 0, cells := 0, slots := 0, locals := 0 }) (PcH G [.ref a, .int (nI c), .int (nI w), .int v] (Arr G 0 a 327 g)) (QM none (Arr G 0 a 327 (h_X7_lay g c w v)) (one a)) 0 0 (one a) := by
  refine metH (cc := cX7_lay) (maxL := 4) (ret := none) (by decide) rfl ?_
  intro p e s m below meth cd hx hb hr hml hown hts hlocks hP hO
  have hA : ∀ q, (one a) q → (one a) q := fun _ h => h
  have hS : va_S (one a) s.heap s.heap [] := va_S.rf
  have hl := lv_entry ([.ref a, .int (nI c), .int (nI w), .int v]) (n := 4) (Nat.le_of_ble_eq_true rfl)
  rw [lg_entry_eq]
  generalize (lg_sl ([.ref a, .int (nI c), .int (nI w), .int v]) ++ List.replicate (4 - (lg_sl ([.ref a, .int (nI c), .int (nI w), .int v])).length) Slot.unset).toArray = ls at hl ⊢
  have hl : lv_has ls 4 [(0, .ref a), (1, .int (nI c)), (2, .int (nI w)), (3, .int v)] := hl
  refine lv_aload_n hx hb dX7_lay_0 rfl (lv_at hl 0 rfl) ?_
  refine lv_bipush (v := 87) hx hb dX7_lay_1 (by decide) ?_
  refine lv_bipush (v := 6) hx hb dX7_lay_3 (by decide) ?_
  refine lv_iload_n hx hb dX7_lay_5 rfl (lv_at hl 1 rfl) ?_
  refine imul_n (a := 6) (b := c) hx hb dX7_lay_6 ?_
  refine iadd_n (a := 87) (b := 6 * c) hx hb dX7_lay_7 ?_
  refine lv_iload_n hx hb dX7_lay_8 rfl (lv_at hl 2 rfl) ?_
  refine iadd_n (a := 87 + (6 * c)) (b := w) hx hb dX7_lay_9 ?_
  refine lv_iload_n hx hb dX7_lay_10 rfl (lv_at hl 3 rfl) ?_
  refine iast_n hx hb hO.1 hP (Arr_D (hA _ rfl)) hS 0 0 rfl rfl (by omega) (by decide) dX7_lay_11 (fun H locs hP hD hS => ?_)
  have hP : Arr G 0 a 327 (upd g ((87 + (6 * c)) + w) v) H := id hP
  have hE : h_X7_lay g c w v = (upd g ((87 + (6 * c)) + w) v) := (by rw [h_X7_lay])
  exact W.vret hx hb hr (fun t ht hW => ⟨rfl, by rw [ht, hE]; exact hP, hS.F ht⟩) hS.2.2 dX7_lay_12

def f_X7_isCar (g : Rw) (c : Int32) : Int32 :=
  f_X7_in c.toInt64 0 (((g 0) - 1).toInt64)
set_option maxHeartbeats 4000000 in
set_option maxRecDepth 100000 in
theorem c_X7_isCar (l : Launch) (G : GG) (a : Nat) (g : Rw) (c : Int32) : Met l yX7_isCar wsX7_isCar ({ frames := 1, cells := 0, slots := 0, locals := 25 }) (PcH G [.ref a, .int c] (Arr G 0 a 327 g)) (QP (some (.int (f_X7_isCar g c)))) 0 0 noA := by
  refine metH (cc := cX7_isCar) (maxL := 2) (ret := (some .boolean)) (by decide) rfl ?_
  intro p e s m below meth cd hx hb hr hml hown hts hlocks hP hO
  have hS : va_S noA s.heap s.heap [] := va_S.rf
  have hl := lv_entry ([.ref a, .int c]) (n := 2) (Nat.le_of_ble_eq_true rfl)
  rw [lg_entry_eq]
  generalize (lg_sl ([.ref a, .int c]) ++ List.replicate (2 - (lg_sl ([.ref a, .int c])).length) Slot.unset).toArray = ls at hl ⊢
  have hl : lv_has ls 2 [(0, .ref a), (1, .int c)] := hl
  refine lv_iload_n hx hb dX7_isCar_0 rfl (lv_at hl 1 rfl) ?_
  refine lv_i2l (v := c.toInt64) hx hb dX7_isCar_1 rfl ?_
  refine lv_lconst (v := 0) hx hb dX7_isCar_2 (by decide) ?_
  refine lv_aload_n hx hb dX7_isCar_3 rfl (lv_at hl 0 rfl) ?_
  refine lv_iconst (v := 0) hx hb dX7_isCar_4 (by decide) ?_
  refine iald_n (k := 0) hx hb hO.1 hP 0 0 rfl rfl (by omega) (by decide) dX7_isCar_5 ?_
  refine lv_iconst (v := 1) hx hb dX7_isCar_6 (by decide) ?_
  refine lv_isub hx hb dX7_isCar_7 ?_
  refine lv_i2l (v := ((g 0) - 1).toInt64) hx hb dX7_isCar_8 rfl ?_
  refine cl_pi (rS (As := [.long c.toInt64, .long 0, .long (((g 0) - 1).toInt64)]) (rest := []) ⟨hx, hb, hml, hown, hts⟩ (c_X7_in l G c.toInt64 0 (((g 0) - 1).toInt64)) (va_cwS 3 hts gX7_isCar_X7_in rfl rfl rfl (by decide +kernel) ⟨Nat.le_of_ble_eq_true rfl, Nat.le_of_ble_eq_true rfl⟩) trivial hO rfl hl.1 (Nat.le_of_ble_eq_true rfl) dX7_isCar_9 ⟨Nat.le_of_ble_eq_true rfl, Nat.le_of_ble_eq_true rfl⟩) ?_
  have hE : f_X7_isCar g c = f_X7_in c.toInt64 0 (((g 0) - 1).toInt64) := (by rw [f_X7_isCar])
  exact W.zret (ty := .boolean) hx hb hr (nar_b (b_f_X7_in ..)) (fun t ht hW => ⟨by rw [hE], ht⟩) hS.2.2 dX7_isCar_12

theorem b_f_X7_isCar (g : Rw) (c : Int32) : f_X7_isCar g c = 0 ∨ f_X7_isCar g c = 1 := b_f_X7_in ..

def lp_gapFrom (g : Rw) : Nat → Nat → Nat
  | 0, k => k
  | n + 1, k => if 80 ≤ (nI k) then k else
    if (g (7 + k)) = (-1) then k else
    lp_gapFrom g n (k + 1)
def f_X7_gapFrom (g : Rw) (j : Nat) : Nat :=
  lp_gapFrom g (81 - j) j
set_option maxHeartbeats 4000000 in
set_option maxRecDepth 100000 in
theorem c_X7_gapFrom (l : Launch) (G : GG) (a : Nat) (g : Rw) (j : Nat) (hj : j ≤ 80) : Met l yX7_gapFrom wsX7_gapFrom ({ frames := 0, cells := 0, slots := 0, locals := 0 }) (PcH G [.ref a, .int (nI j)] (Arr G 0 a 327 g)) (QP (some (.int (nI (f_X7_gapFrom g j))))) 0 0 noA := by
  refine metH (cc := cX7_gapFrom) (maxL := 3) (ret := (some .int)) (by decide) rfl ?_
  intro p e s m below meth cd hx hb hr hml hown hts hlocks hP hO
  have hS : va_S noA s.heap s.heap [] := va_S.rf
  have hl := lv_entry ([.ref a, .int (nI j)]) (n := 3) (Nat.le_of_ble_eq_true rfl)
  rw [lg_entry_eq]
  generalize (lg_sl ([.ref a, .int (nI j)]) ++ List.replicate (3 - (lg_sl ([.ref a, .int (nI j)])).length) Slot.unset).toArray = ls at hl ⊢
  have hl : lv_has ls 3 [(0, .ref a), (1, .int (nI j))] := hl
  have loop2 : ∀ (n : Nat) (k : Nat) , k ≤ 80 → k + n = 81 → f_X7_gapFrom g j = lp_gapFrom g n k → ∀ (ls : Array Slot), lv_has ls 3 [(0, .ref a), (1, .int (nI j)), (2, .int (nI k))] → W p l e (headSpec wsX7_gapFrom ({ frames := 0, cells := 0, slots := 0, locals := 0 } : Room)).room s m ([.ref a, .int (nI j)] : List Value).toArray below meth cd s.heap [] 0 0 (MQ below (QP (some (.int (nI (f_X7_gapFrom g j))))) ([.ref a, .int (nI j)] : List Value).toArray s 0 0 noA) (F0 m 2 ls []) := by
    intro n
    induction n with
    | zero =>
      intro k hk hn hR ls hl
      exact absurd hn (by omega)
    | succ n ih =>
      intro k hk hn hR ls hl
      refine lv_iload_n hx hb dX7_gapFrom_2 rfl (lv_at hl 2 rfl) ?_
      refine lv_bipush (v := 80) hx hb dX7_gapFrom_3 (by decide) ?_
      refine lv_icmp_ge (tgt := 24) hx hb dX7_gapFrom_5 (by decide) (fun c_1 => ?_) (fun c_1 => ?_)
      · refine lv_iload_n hx hb dX7_gapFrom_24 rfl (lv_at hl 2 rfl) ?_
        have hE : f_X7_gapFrom g j = k := (hR.trans (by rw [lp_gapFrom, if_pos c_1]))
        exact W.iret hx hb hr (fun t ht hW => ⟨by rw [hE], ht⟩) hS.2.2 dX7_gapFrom_25
      · have hlt : k < 80 := kN (B := 80) c_1 (by omega) (by omega)
        refine lv_aload_n hx hb dX7_gapFrom_8 rfl (lv_at hl 0 rfl) ?_
        refine lv_bipush (v := 7) hx hb dX7_gapFrom_9 (by decide) ?_
        refine lv_iload_n hx hb dX7_gapFrom_11 rfl (lv_at hl 2 rfl) ?_
        refine iadd_n (a := 7) (b := k) hx hb dX7_gapFrom_12 ?_
        refine iald_n hx hb hO.1 hP 0 0 rfl rfl (by omega) (by decide) dX7_gapFrom_13 ?_
        refine lv_iconst (v := -1) hx hb dX7_gapFrom_14 (by decide) ?_
        refine lv_icmp_eq (tgt := 24) hx hb dX7_gapFrom_15 (by decide) (fun c_2 => ?_) (fun c_2 => ?_)
        · refine lv_iload_n hx hb dX7_gapFrom_24 rfl (lv_at hl 2 rfl) ?_
          have hE : f_X7_gapFrom g j = k := (hR.trans (by rw [lp_gapFrom, if_neg c_1, if_pos c_2]))
          exact W.iret hx hb hr (fun t ht hW => ⟨by rw [hE], ht⟩) hS.2.2 dX7_gapFrom_25
        · refine lv_iinc (v := nI (k + 1)) (lv' := [(2, .int (nI (k + 1))), (0, .ref a), (1, .int (nI j))]) hx hb dX7_gapFrom_18 hl (k := 2) rfl (nI_1 _) (by decide) rfl (fun ls hl => ?_)
          refine lv_goto (tgt := 2) hx hb dX7_gapFrom_21 (by decide) ?_
          have hE_3 : f_X7_gapFrom g j = lp_gapFrom g n (k + 1) := (hR.trans (by rw [lp_gapFrom, if_neg c_1, if_neg c_2]))
          exact ih (k + 1) (by omega) (by omega) hE_3 _ (lv_sub hl [1, 2, 0] rfl)
  refine lv_iload_n hx hb dX7_gapFrom_0 rfl (lv_at hl 1 rfl) ?_
  refine lv_istore_n (lv' := [(2, .int (nI j)), (0, .ref a), (1, .int (nI j))]) hx hb dX7_gapFrom_1 rfl hl (by decide) rfl (fun ls hl => ?_)
  have hE_4 : f_X7_gapFrom g j = lp_gapFrom g (81 - j) j := (by rw [f_X7_gapFrom])
  exact loop2 (81 - j) j hj (by omega) hE_4 _ (lv_sub hl [1, 2, 0] rfl)

def lp_gapCells (g : Rw) (j : Nat) : Nat → Nat → Nat
  | 0, k => k - j
  | n + 1, k => if 80 ≤ (nI k) then k - j else
    if (g (7 + k)) = (-1) then lp_gapCells g j n (k + 1) else
    k - j
def f_X7_gapCells (g : Rw) (j : Nat) : Nat :=
  lp_gapCells g j (81 - j) j
set_option maxHeartbeats 4000000 in
set_option maxRecDepth 100000 in
theorem c_X7_gapCells (l : Launch) (G : GG) (a : Nat) (g : Rw) (j : Nat) (hj : j ≤ 80) : Met l yX7_gapCells wsX7_gapCells ({ frames := 0, cells := 0, slots := 0, locals := 0 }) (PcH G [.ref a, .int (nI j)] (Arr G 0 a 327 g)) (QP (some (.int (nI (f_X7_gapCells g j))))) 0 0 noA := by
  refine metH (cc := cX7_gapCells) (maxL := 3) (ret := (some .int)) (by decide) rfl ?_
  intro p e s m below meth cd hx hb hr hml hown hts hlocks hP hO
  have hS : va_S noA s.heap s.heap [] := va_S.rf
  have hl := lv_entry ([.ref a, .int (nI j)]) (n := 3) (Nat.le_of_ble_eq_true rfl)
  rw [lg_entry_eq]
  generalize (lg_sl ([.ref a, .int (nI j)]) ++ List.replicate (3 - (lg_sl ([.ref a, .int (nI j)])).length) Slot.unset).toArray = ls at hl ⊢
  have hl : lv_has ls 3 [(0, .ref a), (1, .int (nI j))] := hl
  have loop2 : ∀ (n : Nat) (k : Nat) , k ≤ 80 → k + n = 81 → j ≤ k → f_X7_gapCells g j = lp_gapCells g j n k → ∀ (ls : Array Slot), lv_has ls 3 [(0, .ref a), (1, .int (nI j)), (2, .int (nI k))] → W p l e (headSpec wsX7_gapCells ({ frames := 0, cells := 0, slots := 0, locals := 0 } : Room)).room s m ([.ref a, .int (nI j)] : List Value).toArray below meth cd s.heap [] 0 0 (MQ below (QP (some (.int (nI (f_X7_gapCells g j))))) ([.ref a, .int (nI j)] : List Value).toArray s 0 0 noA) (F0 m 2 ls []) := by
    intro n
    induction n with
    | zero =>
      intro k hk hn hjk hR ls hl
      exact absurd hn (by omega)
    | succ n ih =>
      intro k hk hn hjk hR ls hl
      refine lv_iload_n hx hb dX7_gapCells_2 rfl (lv_at hl 2 rfl) ?_
      refine lv_bipush (v := 80) hx hb dX7_gapCells_3 (by decide) ?_
      refine lv_icmp_ge (tgt := 24) hx hb dX7_gapCells_5 (by decide) (fun c_1 => ?_) (fun c_1 => ?_)
      · refine lv_iload_n hx hb dX7_gapCells_24 rfl (lv_at hl 2 rfl) ?_
        refine lv_iload_n hx hb dX7_gapCells_25 rfl (lv_at hl 1 rfl) ?_
        refine isub_n (a := k) (b := j) hx hb hjk dX7_gapCells_26 ?_
        have hE : f_X7_gapCells g j = k - j := (hR.trans (by rw [lp_gapCells, if_pos c_1]))
        exact W.iret hx hb hr (fun t ht hW => ⟨by rw [hE], ht⟩) hS.2.2 dX7_gapCells_27
      · have hlt : k < 80 := kN (B := 80) c_1 (by omega) (by omega)
        refine lv_aload_n hx hb dX7_gapCells_8 rfl (lv_at hl 0 rfl) ?_
        refine lv_bipush (v := 7) hx hb dX7_gapCells_9 (by decide) ?_
        refine lv_iload_n hx hb dX7_gapCells_11 rfl (lv_at hl 2 rfl) ?_
        refine iadd_n (a := 7) (b := k) hx hb dX7_gapCells_12 ?_
        refine iald_n hx hb hO.1 hP 0 0 rfl rfl (by omega) (by decide) dX7_gapCells_13 ?_
        refine lv_iconst (v := -1) hx hb dX7_gapCells_14 (by decide) ?_
        refine lv_icmp_ne (tgt := 24) hx hb dX7_gapCells_15 (by decide) (fun c_2 => ?_) (fun c_2 => ?_)
        · refine lv_iload_n hx hb dX7_gapCells_24 rfl (lv_at hl 2 rfl) ?_
          refine lv_iload_n hx hb dX7_gapCells_25 rfl (lv_at hl 1 rfl) ?_
          refine isub_n (a := k) (b := j) hx hb hjk dX7_gapCells_26 ?_
          have hE : f_X7_gapCells g j = k - j := (hR.trans (by rw [lp_gapCells, if_neg c_1, if_neg c_2]))
          exact W.iret hx hb hr (fun t ht hW => ⟨by rw [hE], ht⟩) hS.2.2 dX7_gapCells_27
        · refine lv_iinc (v := nI (k + 1)) (lv' := [(2, .int (nI (k + 1))), (0, .ref a), (1, .int (nI j))]) hx hb dX7_gapCells_18 hl (k := 2) rfl (nI_1 _) (by decide) rfl (fun ls hl => ?_)
          refine lv_goto (tgt := 2) hx hb dX7_gapCells_21 (by decide) ?_
          have hE_3 : f_X7_gapCells g j = lp_gapCells g j n (k + 1) := (hR.trans (by rw [lp_gapCells, if_neg c_1, if_pos c_2]))
          exact ih (k + 1) (by omega) (by omega) (by omega) hE_3 _ (lv_sub hl [1, 2, 0] rfl)
  refine lv_iload_n hx hb dX7_gapCells_0 rfl (lv_at hl 1 rfl) ?_
  refine lv_istore_n (lv' := [(2, .int (nI j)), (0, .ref a), (1, .int (nI j))]) hx hb dX7_gapCells_1 rfl hl (by decide) rfl (fun ls hl => ?_)
  have hE_4 : f_X7_gapCells g j = lp_gapCells g j (81 - j) j := (by rw [f_X7_gapCells])
  exact loop2 (81 - j) j hj (by omega) (Nat.le_refl _) hE_4 _ (lv_sub hl [1, 2, 0] rfl)

theorem lpFrom_le (g : Rw) : ∀ (n k : Nat), k ≤ 80 → k + n = 81 → k ≤ lp_gapFrom g n k ∧ lp_gapFrom g n k ≤ 80 := by
  intro n
  induction n with
  | zero => intro k hk hn; omega
  | succ n ih =>
    intro k hk hn
    rw [lp_gapFrom]
    split
    · exact ⟨Nat.le_refl _, hk⟩
    · rename_i c1
      split
      · exact ⟨Nat.le_refl _, hk⟩
      · have h9 : k < 80 := kN (B := 80) c1 (by omega) (by omega)
        have h8 := ih (k + 1) (by omega) (by omega)
        omega
theorem from_le (g : Rw) {j : Nat} (hj : j ≤ 80) : j ≤ f_X7_gapFrom g j ∧ f_X7_gapFrom g j ≤ 80 := lpFrom_le g _ _ hj (by omega)
theorem lpCells_le (g : Rw) (j : Nat) : ∀ (n k : Nat), k ≤ 80 → k + n = 81 → j ≤ k → k - j ≤ lp_gapCells g j n k ∧ j + lp_gapCells g j n k ≤ 80 := by
  intro n
  induction n with
  | zero => intro k hk hn; omega
  | succ n ih =>
    intro k hk hn hj
    rw [lp_gapCells]
    split
    · omega
    · rename_i c1
      split
      · have h9 : k < 80 := kN (B := 80) c1 (by omega) (by omega)
        have h8 := ih (k + 1) (by omega) (by omega) (by omega)
        omega
      · omega
theorem cells_le (g : Rw) {j : Nat} (hj : j ≤ 80) : j + f_X7_gapCells g j ≤ 80 := (lpCells_le g j _ _ hj (by omega) (Nat.le_refl _)).2

theorem next_pre (g : Rw) {j : Nat} (h : j < 80) (hc : f_X7_gapCells g j = 0) : j < f_X7_gapFrom g j := by
  rw [f_X7_gapCells, show 81 - j = (80 - j) + 1 by omega, lp_gapCells, if_neg (show ¬ (80 : Int32) ≤ nI j from nI_ge h (by decide))] at hc
  rw [f_X7_gapFrom, show 81 - j = (80 - j) + 1 by omega, lp_gapFrom, if_neg (show ¬ (80 : Int32) ≤ nI j from nI_ge h (by decide))]
  by_cases c : g (7 + j) = -1
  · rw [if_pos c] at hc
    have h8 := (lpCells_le g j (80 - j) (j + 1) (by omega) (by omega) (by omega)).1
    omega
  · rw [if_neg c]
    have h8 := (lpFrom_le g (80 - j) (j + 1) (by omega) (by omega)).1
    omega

def f_X7_nextGap (g : Rw) (j : Nat) : Nat :=
  (f_X7_gapFrom g (j + (f_X7_gapCells g j)))
set_option maxHeartbeats 4000000 in
set_option maxRecDepth 100000 in
theorem c_X7_nextGap (l : Launch) (G : GG) (a : Nat) (g : Rw) (j : Nat) (hj : j ≤ 80) : Met l yX7_nextGap wsX7_nextGap ({ frames := 1, cells := 0, slots := 0, locals := 22 }) (PcH G [.ref a, .int (nI j)] (Arr G 0 a 327 g)) (QP (some (.int (nI (f_X7_nextGap g j))))) 0 0 noA := by
  refine metH (cc := cX7_nextGap) (maxL := 2) (ret := (some .int)) (by decide) rfl ?_
  intro p e s m below meth cd hx hb hr hml hown hts hlocks hP hO
  have hS : va_S noA s.heap s.heap [] := va_S.rf
  have hl := lv_entry ([.ref a, .int (nI j)]) (n := 2) (Nat.le_of_ble_eq_true rfl)
  rw [lg_entry_eq]
  generalize (lg_sl ([.ref a, .int (nI j)]) ++ List.replicate (2 - (lg_sl ([.ref a, .int (nI j)])).length) Slot.unset).toArray = ls at hl ⊢
  have hl : lv_has ls 2 [(0, .ref a), (1, .int (nI j))] := hl
  refine lv_aload_n hx hb dX7_nextGap_0 rfl (lv_at hl 0 rfl) ?_
  refine lv_iload_n hx hb dX7_nextGap_1 rfl (lv_at hl 1 rfl) ?_
  refine lv_aload_n hx hb dX7_nextGap_2 rfl (lv_at hl 0 rfl) ?_
  refine lv_iload_n hx hb dX7_nextGap_3 rfl (lv_at hl 1 rfl) ?_
  refine cl_pi (rS (As := [.ref a, .int (nI j)]) (rest := [.int (nI j), .ref a]) ⟨hx, hb, hml, hown, hts⟩ (c_X7_gapCells l G a g j (by omega)) (va_cwS 2 hts gX7_nextGap_X7_gapCells rfl rfl rfl (by decide +kernel) ⟨Nat.le_of_ble_eq_true rfl, Nat.le_of_ble_eq_true rfl⟩) hP hO rfl hl.1 (Nat.le_of_ble_eq_true rfl) dX7_nextGap_4 ⟨Nat.le_of_ble_eq_true rfl, Nat.le_of_ble_eq_true rfl⟩) ?_
  refine iadd_n (a := j) (b := (f_X7_gapCells g j)) hx hb dX7_nextGap_7 ?_
  refine cl_pi (rS (As := [.ref a, .int (nI (j + (f_X7_gapCells g j)))]) (rest := []) ⟨hx, hb, hml, hown, hts⟩ (c_X7_gapFrom l G a g (j + (f_X7_gapCells g j)) (cells_le g hj)) (va_cwS 2 hts gX7_nextGap_X7_gapFrom rfl rfl rfl (by decide +kernel) ⟨Nat.le_of_ble_eq_true rfl, Nat.le_of_ble_eq_true rfl⟩) hP hO rfl hl.1 (Nat.le_of_ble_eq_true rfl) dX7_nextGap_8 ⟨Nat.le_of_ble_eq_true rfl, Nat.le_of_ble_eq_true rfl⟩) ?_
  have hE : f_X7_nextGap g j = (f_X7_gapFrom g (j + (f_X7_gapCells g j))) := (by rw [f_X7_nextGap])
  exact W.iret hx hb hr (fun t ht hW => ⟨by rw [hE], ht⟩) hS.2.2 dX7_nextGap_11

theorem next_gt (g : Rw) {j : Nat} (h : j < 80) : j < f_X7_nextGap g j ∧ f_X7_nextGap g j ≤ 80 := by
  rw [f_X7_nextGap]
  have h1 := cells_le g (j := j) (by omega)
  have h2 := from_le g h1
  refine ⟨?_, h2.2⟩
  by_cases c : f_X7_gapCells g j = 0
  · rw [c, Nat.add_zero]
    exact next_pre g h c
  · omega

def lp_rLongest (g : Rw) : Nat → Nat → Nat → Nat
  | 0, most, _ => most
  | n + 1, most, k => if 80 ≤ (nI k) then most else
    if (nI (f_X7_gapCells g k)) ≤ (nI most) then lp_rLongest g n most (f_X7_nextGap g k) else
    lp_rLongest g n (f_X7_gapCells g k) (f_X7_nextGap g k)
def f_X7_longest (g : Rw) : Nat :=
  lp_rLongest g 81 0 (f_X7_gapFrom g 0)
set_option maxHeartbeats 4000000 in
set_option maxRecDepth 100000 in
theorem c_X7_longest (l : Launch) (G : GG) (a : Nat) (g : Rw) : Met l yX7_longest wsX7_longest ({ frames := 2, cells := 0, slots := 0, locals := 43 }) (PcH G [.ref a] (Arr G 0 a 327 g)) (QP (some (.int (nI (f_X7_longest g))))) 0 0 noA := by
  refine metH (cc := cX7_longest) (maxL := 3) (ret := (some .int)) (by decide) rfl ?_
  intro p e s m below meth cd hx hb hr hml hown hts hlocks hP hO
  have hS : va_S noA s.heap s.heap [] := va_S.rf
  have hl := lv_entry ([.ref a]) (n := 3) (Nat.le_of_ble_eq_true rfl)
  rw [lg_entry_eq]
  generalize (lg_sl ([.ref a]) ++ List.replicate (3 - (lg_sl ([.ref a])).length) Slot.unset).toArray = ls at hl ⊢
  have hl : lv_has ls 3 [(0, .ref a)] := hl
  have loop8 : ∀ (n : Nat) (most : Nat) (k : Nat) , k ≤ 80 → 80 < k + n → f_X7_longest g = lp_rLongest g n most k → ∀ (ls : Array Slot), lv_has ls 3 [(0, .ref a), (1, .int (nI most)), (2, .int (nI k))] → W p l e (headSpec wsX7_longest ({ frames := 2, cells := 0, slots := 0, locals := 43 } : Room)).room s m ([.ref a] : List Value).toArray below meth cd s.heap [] 0 0 (MQ below (QP (some (.int (nI (f_X7_longest g))))) ([.ref a] : List Value).toArray s 0 0 noA) (F0 m 8 ls []) := by
    intro n
    induction n with
    | zero =>
      intro most k hk hn hR ls hl
      exact absurd hn (by omega)
    | succ n ih =>
      intro most k hk hn hR ls hl
      refine lv_iload_n hx hb dX7_longest_8 rfl (lv_at hl 2 rfl) ?_
      refine lv_bipush (v := 80) hx hb dX7_longest_9 (by decide) ?_
      refine lv_icmp_ge (tgt := 42) hx hb dX7_longest_11 (by decide) (fun c_1 => ?_) (fun c_1 => ?_)
      · refine lv_iload_n hx hb dX7_longest_42 rfl (lv_at hl 1 rfl) ?_
        have hE : f_X7_longest g = most := (hR.trans (by rw [lp_rLongest, if_pos c_1]))
        exact W.iret hx hb hr (fun t ht hW => ⟨by rw [hE], ht⟩) hS.2.2 dX7_longest_43
      · have hlt : k < 80 := kN (B := 80) c_1 (by omega) (by omega)
        refine lv_aload_n hx hb dX7_longest_14 rfl (lv_at hl 0 rfl) ?_
        refine lv_iload_n hx hb dX7_longest_15 rfl (lv_at hl 2 rfl) ?_
        refine cl_pi (rS (As := [.ref a, .int (nI k)]) (rest := []) ⟨hx, hb, hml, hown, hts⟩ (c_X7_gapCells l G a g k (by omega)) (va_cwS 2 hts gX7_longest_X7_gapCells rfl rfl rfl (by decide +kernel) ⟨Nat.le_of_ble_eq_true rfl, Nat.le_of_ble_eq_true rfl⟩) hP hO rfl hl.1 (Nat.le_of_ble_eq_true rfl) dX7_longest_16 ⟨Nat.le_of_ble_eq_true rfl, Nat.le_of_ble_eq_true rfl⟩) ?_
        refine lv_iload_n hx hb dX7_longest_19 rfl (lv_at hl 1 rfl) ?_
        refine lv_icmp_le (tgt := 31) hx hb dX7_longest_20 (by decide) (fun c_2 => ?_) (fun c_2 => ?_)
        · refine lv_iload_n hx hb dX7_longest_31 rfl (lv_at hl 1 rfl) ?_
          refine lv_istore_n (lv' := [(1, .int (nI most)), (0, .ref a), (2, .int (nI k))]) hx hb dX7_longest_32 rfl hl (by decide) rfl (fun ls hl => ?_)
          refine lv_aload_n hx hb dX7_longest_33 rfl (lv_at hl 1 rfl) ?_
          refine lv_iload_n hx hb dX7_longest_34 rfl (lv_at hl 2 rfl) ?_
          refine cl_pi (rS (As := [.ref a, .int (nI k)]) (rest := []) ⟨hx, hb, hml, hown, hts⟩ (c_X7_nextGap l G a g k (by omega)) (va_cwS 2 hts gX7_longest_X7_nextGap rfl rfl rfl (by decide +kernel) ⟨Nat.le_of_ble_eq_true rfl, Nat.le_of_ble_eq_true rfl⟩) hP hO rfl hl.1 (Nat.le_of_ble_eq_true rfl) dX7_longest_35 ⟨Nat.le_of_ble_eq_true rfl, Nat.le_of_ble_eq_true rfl⟩) ?_
          refine lv_istore_n (lv' := [(2, .int (nI (f_X7_nextGap g k))), (1, .int (nI most)), (0, .ref a)]) hx hb dX7_longest_38 rfl hl (by decide) rfl (fun ls hl => ?_)
          refine lv_goto (tgt := 8) hx hb dX7_longest_39 (by decide) ?_
          have hE_3 : f_X7_longest g = lp_rLongest g n most (f_X7_nextGap g k) := (hR.trans (by rw [lp_rLongest, if_neg c_1, if_pos c_2]))
          exact ih most (f_X7_nextGap g k) (next_gt g hlt).2 (by have h9 := (next_gt g hlt).1; omega) hE_3 _ (lv_sub hl [2, 1, 0] rfl)
        · refine lv_aload_n hx hb dX7_longest_23 rfl (lv_at hl 0 rfl) ?_
          refine lv_iload_n hx hb dX7_longest_24 rfl (lv_at hl 2 rfl) ?_
          refine cl_pi (rS (As := [.ref a, .int (nI k)]) (rest := []) ⟨hx, hb, hml, hown, hts⟩ (c_X7_gapCells l G a g k (by omega)) (va_cwS 2 hts gX7_longest_X7_gapCells rfl rfl rfl (by decide +kernel) ⟨Nat.le_of_ble_eq_true rfl, Nat.le_of_ble_eq_true rfl⟩) hP hO rfl hl.1 (Nat.le_of_ble_eq_true rfl) dX7_longest_25 ⟨Nat.le_of_ble_eq_true rfl, Nat.le_of_ble_eq_true rfl⟩) ?_
          refine lv_goto (tgt := 32) hx hb dX7_longest_28 (by decide) ?_
          refine lv_istore_n (lv' := [(1, .int (nI (f_X7_gapCells g k))), (0, .ref a), (2, .int (nI k))]) hx hb dX7_longest_32 rfl hl (by decide) rfl (fun ls hl => ?_)
          refine lv_aload_n hx hb dX7_longest_33 rfl (lv_at hl 1 rfl) ?_
          refine lv_iload_n hx hb dX7_longest_34 rfl (lv_at hl 2 rfl) ?_
          refine cl_pi (rS (As := [.ref a, .int (nI k)]) (rest := []) ⟨hx, hb, hml, hown, hts⟩ (c_X7_nextGap l G a g k (by omega)) (va_cwS 2 hts gX7_longest_X7_nextGap rfl rfl rfl (by decide +kernel) ⟨Nat.le_of_ble_eq_true rfl, Nat.le_of_ble_eq_true rfl⟩) hP hO rfl hl.1 (Nat.le_of_ble_eq_true rfl) dX7_longest_35 ⟨Nat.le_of_ble_eq_true rfl, Nat.le_of_ble_eq_true rfl⟩) ?_
          refine lv_istore_n (lv' := [(2, .int (nI (f_X7_nextGap g k))), (1, .int (nI (f_X7_gapCells g k))), (0, .ref a)]) hx hb dX7_longest_38 rfl hl (by decide) rfl (fun ls hl => ?_)
          refine lv_goto (tgt := 8) hx hb dX7_longest_39 (by decide) ?_
          have hE_4 : f_X7_longest g = lp_rLongest g n (f_X7_gapCells g k) (f_X7_nextGap g k) := (hR.trans (by rw [lp_rLongest, if_neg c_1, if_neg c_2]))
          exact ih (f_X7_gapCells g k) (f_X7_nextGap g k) (next_gt g hlt).2 (by have h9 := (next_gt g hlt).1; omega) hE_4 _ (lv_sub hl [2, 1, 0] rfl)
  refine lv_iconst (v := 0) hx hb dX7_longest_0 (by decide) ?_
  refine lv_istore_n (lv' := [(1, .int 0), (0, .ref a)]) hx hb dX7_longest_1 rfl hl (by decide) rfl (fun ls hl => ?_)
  refine lv_aload_n hx hb dX7_longest_2 rfl (lv_at hl 1 rfl) ?_
  refine lv_iconst (v := 0) hx hb dX7_longest_3 (by decide) ?_
  refine cl_pi (rS (As := [.ref a, .int 0]) (rest := []) ⟨hx, hb, hml, hown, hts⟩ (c_X7_gapFrom l G a g 0 (by omega)) (va_cwS 2 hts gX7_longest_X7_gapFrom rfl rfl rfl (by decide +kernel) ⟨Nat.le_of_ble_eq_true rfl, Nat.le_of_ble_eq_true rfl⟩) hP hO rfl hl.1 (Nat.le_of_ble_eq_true rfl) dX7_longest_4 ⟨Nat.le_of_ble_eq_true rfl, Nat.le_of_ble_eq_true rfl⟩) ?_
  refine lv_istore_n (lv' := [(2, .int (nI (f_X7_gapFrom g 0))), (1, .int 0), (0, .ref a)]) hx hb dX7_longest_7 rfl hl (by decide) rfl (fun ls hl => ?_)
  have hE_5 : f_X7_longest g = lp_rLongest g 81 0 (f_X7_gapFrom g 0) := (by rw [f_X7_longest])
  exact loop8 81 0 (f_X7_gapFrom g 0) (from_le g (by omega)).2 (by omega) hE_5 _ (lv_sub hl [2, 1, 0] rfl)

def lp_rGaps (g : Rw) : Nat → Nat → Nat → Nat
  | 0, acc, _ => acc
  | n + 1, acc, k => if 80 ≤ (nI k) then acc else
    lp_rGaps g n (acc + 1) (f_X7_nextGap g k)
def f_X7_gaps (g : Rw) : Nat :=
  lp_rGaps g 81 0 (f_X7_gapFrom g 0)
set_option maxHeartbeats 4000000 in
set_option maxRecDepth 100000 in
theorem c_X7_gaps (l : Launch) (G : GG) (a : Nat) (g : Rw) : Met l yX7_gaps wsX7_gaps ({ frames := 2, cells := 0, slots := 0, locals := 43 }) (PcH G [.ref a] (Arr G 0 a 327 g)) (QP (some (.int (nI (f_X7_gaps g))))) 0 0 noA := by
  refine metH (cc := cX7_gaps) (maxL := 3) (ret := (some .int)) (by decide) rfl ?_
  intro p e s m below meth cd hx hb hr hml hown hts hlocks hP hO
  have hS : va_S noA s.heap s.heap [] := va_S.rf
  have hl := lv_entry ([.ref a]) (n := 3) (Nat.le_of_ble_eq_true rfl)
  rw [lg_entry_eq]
  generalize (lg_sl ([.ref a]) ++ List.replicate (3 - (lg_sl ([.ref a])).length) Slot.unset).toArray = ls at hl ⊢
  have hl : lv_has ls 3 [(0, .ref a)] := hl
  have loop8 : ∀ (n : Nat) (acc : Nat) (k : Nat) , k ≤ 80 → 80 < k + n → f_X7_gaps g = lp_rGaps g n acc k → ∀ (ls : Array Slot), lv_has ls 3 [(0, .ref a), (1, .int (nI acc)), (2, .int (nI k))] → W p l e (headSpec wsX7_gaps ({ frames := 2, cells := 0, slots := 0, locals := 43 } : Room)).room s m ([.ref a] : List Value).toArray below meth cd s.heap [] 0 0 (MQ below (QP (some (.int (nI (f_X7_gaps g))))) ([.ref a] : List Value).toArray s 0 0 noA) (F0 m 8 ls []) := by
    intro n
    induction n with
    | zero =>
      intro acc k hk hn hR ls hl
      exact absurd hn (by omega)
    | succ n ih =>
      intro acc k hk hn hR ls hl
      refine lv_iload_n hx hb dX7_gaps_8 rfl (lv_at hl 2 rfl) ?_
      refine lv_bipush (v := 80) hx hb dX7_gaps_9 (by decide) ?_
      refine lv_icmp_ge (tgt := 26) hx hb dX7_gaps_11 (by decide) (fun c_1 => ?_) (fun c_1 => ?_)
      · refine lv_iload_n hx hb dX7_gaps_26 rfl (lv_at hl 1 rfl) ?_
        have hE : f_X7_gaps g = acc := (hR.trans (by rw [lp_rGaps, if_pos c_1]))
        exact W.iret hx hb hr (fun t ht hW => ⟨by rw [hE], ht⟩) hS.2.2 dX7_gaps_27
      · have hlt : k < 80 := kN (B := 80) c_1 (by omega) (by omega)
        refine lv_iinc (v := nI (acc + 1)) (lv' := [(1, .int (nI (acc + 1))), (0, .ref a), (2, .int (nI k))]) hx hb dX7_gaps_14 hl (k := 1) rfl (nI_1 _) (by decide) rfl (fun ls hl => ?_)
        refine lv_aload_n hx hb dX7_gaps_17 rfl (lv_at hl 1 rfl) ?_
        refine lv_iload_n hx hb dX7_gaps_18 rfl (lv_at hl 2 rfl) ?_
        refine cl_pi (rS (As := [.ref a, .int (nI k)]) (rest := []) ⟨hx, hb, hml, hown, hts⟩ (c_X7_nextGap l G a g k (by omega)) (va_cwS 2 hts gX7_gaps_X7_nextGap rfl rfl rfl (by decide +kernel) ⟨Nat.le_of_ble_eq_true rfl, Nat.le_of_ble_eq_true rfl⟩) hP hO rfl hl.1 (Nat.le_of_ble_eq_true rfl) dX7_gaps_19 ⟨Nat.le_of_ble_eq_true rfl, Nat.le_of_ble_eq_true rfl⟩) ?_
        refine lv_istore_n (lv' := [(2, .int (nI (f_X7_nextGap g k))), (1, .int (nI (acc + 1))), (0, .ref a)]) hx hb dX7_gaps_22 rfl hl (by decide) rfl (fun ls hl => ?_)
        refine lv_goto (tgt := 8) hx hb dX7_gaps_23 (by decide) ?_
        have hE_2 : f_X7_gaps g = lp_rGaps g n (acc + 1) (f_X7_nextGap g k) := (hR.trans (by rw [lp_rGaps, if_neg c_1]))
        exact ih (acc + 1) (f_X7_nextGap g k) (next_gt g hlt).2 (by have h9 := (next_gt g hlt).1; omega) hE_2 _ (lv_sub hl [2, 1, 0] rfl)
  refine lv_iconst (v := 0) hx hb dX7_gaps_0 (by decide) ?_
  refine lv_istore_n (lv' := [(1, .int 0), (0, .ref a)]) hx hb dX7_gaps_1 rfl hl (by decide) rfl (fun ls hl => ?_)
  refine lv_aload_n hx hb dX7_gaps_2 rfl (lv_at hl 1 rfl) ?_
  refine lv_iconst (v := 0) hx hb dX7_gaps_3 (by decide) ?_
  refine cl_pi (rS (As := [.ref a, .int 0]) (rest := []) ⟨hx, hb, hml, hown, hts⟩ (c_X7_gapFrom l G a g 0 (by omega)) (va_cwS 2 hts gX7_gaps_X7_gapFrom rfl rfl rfl (by decide +kernel) ⟨Nat.le_of_ble_eq_true rfl, Nat.le_of_ble_eq_true rfl⟩) hP hO rfl hl.1 (Nat.le_of_ble_eq_true rfl) dX7_gaps_4 ⟨Nat.le_of_ble_eq_true rfl, Nat.le_of_ble_eq_true rfl⟩) ?_
  refine lv_istore_n (lv' := [(2, .int (nI (f_X7_gapFrom g 0))), (1, .int 0), (0, .ref a)]) hx hb dX7_gaps_7 rfl hl (by decide) rfl (fun ls hl => ?_)
  have hE_3 : f_X7_gaps g = lp_rGaps g 81 0 (f_X7_gapFrom g 0) := (by rw [f_X7_gaps])
  exact loop8 81 0 (f_X7_gapFrom g 0) (from_le g (by omega)).2 (by omega) hE_3 _ (lv_sub hl [2, 1, 0] rfl)

def lp_rGapOf (g : Rw) (kk : Int32) : Nat → Nat → Nat → Nat
  | 0, _, k => k
  | n + 1, i, k => if kk ≤ (nI i) then k else
    if 80 ≤ (nI k) then k else
    lp_rGapOf g kk n (i + 1) (f_X7_nextGap g k)
def f_X7_gapOf (g : Rw) (kk : Int32) : Nat :=
  lp_rGapOf g kk 81 0 (f_X7_gapFrom g 0)
set_option maxHeartbeats 4000000 in
set_option maxRecDepth 100000 in
theorem c_X7_gapOf (l : Launch) (G : GG) (a : Nat) (g : Rw) (kk : Int32) : Met l yX7_gapOf wsX7_gapOf ({ frames := 2, cells := 0, slots := 0, locals := 43 }) (PcH G [.ref a, .int kk] (Arr G 0 a 327 g)) (QP (some (.int (nI (f_X7_gapOf g kk))))) 0 0 noA := by
  refine metH (cc := cX7_gapOf) (maxL := 4) (ret := (some .int)) (by decide) rfl ?_
  intro p e s m below meth cd hx hb hr hml hown hts hlocks hP hO
  have hS : va_S noA s.heap s.heap [] := va_S.rf
  have hl := lv_entry ([.ref a, .int kk]) (n := 4) (Nat.le_of_ble_eq_true rfl)
  rw [lg_entry_eq]
  generalize (lg_sl ([.ref a, .int kk]) ++ List.replicate (4 - (lg_sl ([.ref a, .int kk])).length) Slot.unset).toArray = ls at hl ⊢
  have hl : lv_has ls 4 [(0, .ref a), (1, .int kk)] := hl
  have loop8 : ∀ (n : Nat) (i : Nat) (k : Nat) , k ≤ 80 → 80 < k + n → f_X7_gapOf g kk = lp_rGapOf g kk n i k → ∀ (ls : Array Slot), lv_has ls 4 [(0, .ref a), (1, .int kk), (2, .int (nI k)), (3, .int (nI i))] → W p l e (headSpec wsX7_gapOf ({ frames := 2, cells := 0, slots := 0, locals := 43 } : Room)).room s m ([.ref a, .int kk] : List Value).toArray below meth cd s.heap [] 0 0 (MQ below (QP (some (.int (nI (f_X7_gapOf g kk))))) ([.ref a, .int kk] : List Value).toArray s 0 0 noA) (F0 m 8 ls []) := by
    intro n
    induction n with
    | zero =>
      intro i k hk hn hR ls hl
      exact absurd hn (by omega)
    | succ n ih =>
      intro i k hk hn hR ls hl
      refine lv_iload_n hx hb dX7_gapOf_8 rfl (lv_at hl 3 rfl) ?_
      refine lv_iload_n hx hb dX7_gapOf_9 rfl (lv_at hl 1 rfl) ?_
      refine lv_icmp_ge (tgt := 31) hx hb dX7_gapOf_10 (by decide) (fun c_1 => ?_) (fun c_1 => ?_)
      · refine lv_iload_n hx hb dX7_gapOf_31 rfl (lv_at hl 2 rfl) ?_
        have hE : f_X7_gapOf g kk = k := (hR.trans (by rw [lp_rGapOf, if_pos c_1]))
        exact W.iret hx hb hr (fun t ht hW => ⟨by rw [hE], ht⟩) hS.2.2 dX7_gapOf_32
      · refine lv_iload_n hx hb dX7_gapOf_13 rfl (lv_at hl 2 rfl) ?_
        refine lv_bipush (v := 80) hx hb dX7_gapOf_14 (by decide) ?_
        refine lv_icmp_ge (tgt := 31) hx hb dX7_gapOf_16 (by decide) (fun c_2 => ?_) (fun c_2 => ?_)
        · refine lv_iload_n hx hb dX7_gapOf_31 rfl (lv_at hl 2 rfl) ?_
          have hE : f_X7_gapOf g kk = k := (hR.trans (by rw [lp_rGapOf, if_neg c_1, if_pos c_2]))
          exact W.iret hx hb hr (fun t ht hW => ⟨by rw [hE], ht⟩) hS.2.2 dX7_gapOf_32
        · have hlt : k < 80 := kN (B := 80) c_2 (by omega) (by omega)
          refine lv_aload_n hx hb dX7_gapOf_19 rfl (lv_at hl 0 rfl) ?_
          refine lv_iload_n hx hb dX7_gapOf_20 rfl (lv_at hl 2 rfl) ?_
          refine cl_pi (rS (As := [.ref a, .int (nI k)]) (rest := []) ⟨hx, hb, hml, hown, hts⟩ (c_X7_nextGap l G a g k (by omega)) (va_cwS 2 hts gX7_gapOf_X7_nextGap rfl rfl rfl (by decide +kernel) ⟨Nat.le_of_ble_eq_true rfl, Nat.le_of_ble_eq_true rfl⟩) hP hO rfl hl.1 (Nat.le_of_ble_eq_true rfl) dX7_gapOf_21 ⟨Nat.le_of_ble_eq_true rfl, Nat.le_of_ble_eq_true rfl⟩) ?_
          refine lv_istore_n (lv' := [(2, .int (nI (f_X7_nextGap g k))), (0, .ref a), (1, .int kk), (3, .int (nI i))]) hx hb dX7_gapOf_24 rfl hl (by decide) rfl (fun ls hl => ?_)
          refine lv_iinc (v := nI (i + 1)) (lv' := [(3, .int (nI (i + 1))), (2, .int (nI (f_X7_nextGap g k))), (0, .ref a), (1, .int kk)]) hx hb dX7_gapOf_25 hl (k := 3) rfl (nI_1 _) (by decide) rfl (fun ls hl => ?_)
          refine lv_goto (tgt := 8) hx hb dX7_gapOf_28 (by decide) ?_
          have hE_3 : f_X7_gapOf g kk = lp_rGapOf g kk n (i + 1) (f_X7_nextGap g k) := (hR.trans (by rw [lp_rGapOf, if_neg c_1, if_neg c_2]))
          exact ih (i + 1) (f_X7_nextGap g k) (next_gt g hlt).2 (by have h9 := (next_gt g hlt).1; omega) hE_3 _ (lv_sub hl [2, 3, 1, 0] rfl)
  refine lv_aload_n hx hb dX7_gapOf_0 rfl (lv_at hl 0 rfl) ?_
  refine lv_iconst (v := 0) hx hb dX7_gapOf_1 (by decide) ?_
  refine cl_pi (rS (As := [.ref a, .int 0]) (rest := []) ⟨hx, hb, hml, hown, hts⟩ (c_X7_gapFrom l G a g 0 (by omega)) (va_cwS 2 hts gX7_gapOf_X7_gapFrom rfl rfl rfl (by decide +kernel) ⟨Nat.le_of_ble_eq_true rfl, Nat.le_of_ble_eq_true rfl⟩) hP hO rfl hl.1 (Nat.le_of_ble_eq_true rfl) dX7_gapOf_2 ⟨Nat.le_of_ble_eq_true rfl, Nat.le_of_ble_eq_true rfl⟩) ?_
  refine lv_istore_n (lv' := [(2, .int (nI (f_X7_gapFrom g 0))), (0, .ref a), (1, .int kk)]) hx hb dX7_gapOf_5 rfl hl (by decide) rfl (fun ls hl => ?_)
  refine lv_iconst (v := 0) hx hb dX7_gapOf_6 (by decide) ?_
  refine lv_istore_n (lv' := [(3, .int 0), (2, .int (nI (f_X7_gapFrom g 0))), (0, .ref a), (1, .int kk)]) hx hb dX7_gapOf_7 rfl hl (by decide) rfl (fun ls hl => ?_)
  have hE_4 : f_X7_gapOf g kk = lp_rGapOf g kk 81 0 (f_X7_gapFrom g 0) := (by rw [f_X7_gapOf])
  exact loop8 81 0 (f_X7_gapFrom g 0) (from_le g (by omega)).2 (by omega) hE_4 _ (lv_sub hl [2, 3, 1, 0] rfl)

def f_X7_suffices (g : Rw) (len : Int32) : Int32 :=
  if (nI (f_X7_longest g)) < (len + (g 3)) then 0 else
  1
set_option maxHeartbeats 4000000 in
set_option maxRecDepth 100000 in
theorem c_X7_suffices (l : Launch) (G : GG) (a : Nat) (g : Rw) (len : Int32) : Met l yX7_suffices wsX7_suffices ({ frames := 3, cells := 0, slots := 0, locals := 65 }) (PcH G [.ref a, .int len] (Arr G 0 a 327 g)) (QP (some (.int (f_X7_suffices g len)))) 0 0 noA := by
  refine metH (cc := cX7_suffices) (maxL := 2) (ret := (some .boolean)) (by decide) rfl ?_
  intro p e s m below meth cd hx hb hr hml hown hts hlocks hP hO
  have hS : va_S noA s.heap s.heap [] := va_S.rf
  have hl := lv_entry ([.ref a, .int len]) (n := 2) (Nat.le_of_ble_eq_true rfl)
  rw [lg_entry_eq]
  generalize (lg_sl ([.ref a, .int len]) ++ List.replicate (2 - (lg_sl ([.ref a, .int len])).length) Slot.unset).toArray = ls at hl ⊢
  have hl : lv_has ls 2 [(0, .ref a), (1, .int len)] := hl
  refine lv_aload_n hx hb dX7_suffices_0 rfl (lv_at hl 0 rfl) ?_
  refine cl_pi (rS (As := [.ref a]) (rest := []) ⟨hx, hb, hml, hown, hts⟩ (c_X7_longest l G a g) (va_cwS 1 hts gX7_suffices_X7_longest rfl rfl rfl (by decide +kernel) ⟨Nat.le_of_ble_eq_true rfl, Nat.le_of_ble_eq_true rfl⟩) hP hO rfl hl.1 (Nat.le_of_ble_eq_true rfl) dX7_suffices_1 ⟨Nat.le_of_ble_eq_true rfl, Nat.le_of_ble_eq_true rfl⟩) ?_
  refine lv_iload_n hx hb dX7_suffices_4 rfl (lv_at hl 1 rfl) ?_
  refine lv_aload_n hx hb dX7_suffices_5 rfl (lv_at hl 0 rfl) ?_
  refine lv_iconst (v := 3) hx hb dX7_suffices_6 (by decide) ?_
  refine iald_n (k := 3) hx hb hO.1 hP 0 0 rfl rfl (by omega) (by decide) dX7_suffices_7 ?_
  refine lv_iadd hx hb dX7_suffices_8 ?_
  refine lv_icmp_lt (tgt := 16) hx hb dX7_suffices_9 (by decide) (fun c_1 => ?_) (fun c_1 => ?_)
  · refine lv_iconst (v := 0) hx hb dX7_suffices_16 (by decide) ?_
    have hE : f_X7_suffices g len = 0 := (by rw [f_X7_suffices, if_pos c_1])
    exact W.zret (ty := .boolean) hx hb hr rfl (fun t ht hW => ⟨by rw [hE], ht⟩) hS.2.2 dX7_suffices_17
  · refine lv_iconst (v := 1) hx hb dX7_suffices_12 (by decide) ?_
    refine lv_goto (tgt := 17) hx hb dX7_suffices_13 (by decide) ?_
    have hE : f_X7_suffices g len = 1 := (by rw [f_X7_suffices, if_neg c_1])
    exact W.zret (ty := .boolean) hx hb hr rfl (fun t ht hW => ⟨by rw [hE], ht⟩) hS.2.2 dX7_suffices_17

theorem b_f_X7_suffices (g : Rw) (len : Int32) : f_X7_suffices g len = 0 ∨ f_X7_suffices g len = 1 := by
  unfold f_X7_suffices
  repeat' split
  all_goals first | exact Or.inl rfl | exact Or.inr rfl

def f_X7_reason (g : Rw) (len : Int32) : Int32 :=
  if len ≤ (nI (f_X7_longest g)) then (if (f_X7_suffices g len) = 0 then 2 else
    0) else
  1
set_option maxHeartbeats 4000000 in
set_option maxRecDepth 100000 in
theorem c_X7_reason (l : Launch) (G : GG) (a : Nat) (g : Rw) (len : Int32) : Met l yX7_reason wsX7_reason ({ frames := 4, cells := 0, slots := 0, locals := 86 }) (PcH G [.ref a, .int len] (Arr G 0 a 327 g)) (QP (some (.int (f_X7_reason g len)))) 0 0 noA := by
  refine metH (cc := cX7_reason) (maxL := 2) (ret := (some .int)) (by decide) rfl ?_
  intro p e s m below meth cd hx hb hr hml hown hts hlocks hP hO
  have hS : va_S noA s.heap s.heap [] := va_S.rf
  have hl := lv_entry ([.ref a, .int len]) (n := 2) (Nat.le_of_ble_eq_true rfl)
  rw [lg_entry_eq]
  generalize (lg_sl ([.ref a, .int len]) ++ List.replicate (2 - (lg_sl ([.ref a, .int len])).length) Slot.unset).toArray = ls at hl ⊢
  have hl : lv_has ls 2 [(0, .ref a), (1, .int len)] := hl
  refine lv_aload_n hx hb dX7_reason_0 rfl (lv_at hl 0 rfl) ?_
  refine cl_pi (rS (As := [.ref a]) (rest := []) ⟨hx, hb, hml, hown, hts⟩ (c_X7_longest l G a g) (va_cwS 1 hts gX7_reason_X7_longest rfl rfl rfl (by decide +kernel) ⟨Nat.le_of_ble_eq_true rfl, Nat.le_of_ble_eq_true rfl⟩) hP hO rfl hl.1 (Nat.le_of_ble_eq_true rfl) dX7_reason_1 ⟨Nat.le_of_ble_eq_true rfl, Nat.le_of_ble_eq_true rfl⟩) ?_
  refine lv_iload_n hx hb dX7_reason_4 rfl (lv_at hl 1 rfl) ?_
  refine lv_icmp_ge (tgt := 12) hx hb dX7_reason_5 (by decide) (fun c_1 => ?_) (fun c_1 => ?_)
  · refine lv_aload_n hx hb dX7_reason_12 rfl (lv_at hl 0 rfl) ?_
    refine lv_iload_n hx hb dX7_reason_13 rfl (lv_at hl 1 rfl) ?_
    refine cl_pi (rS (As := [.ref a, .int len]) (rest := []) ⟨hx, hb, hml, hown, hts⟩ (c_X7_suffices l G a g len) (va_cwS 2 hts gX7_reason_X7_suffices rfl rfl rfl (by decide +kernel) ⟨Nat.le_of_ble_eq_true rfl, Nat.le_of_ble_eq_true rfl⟩) hP hO rfl hl.1 (Nat.le_of_ble_eq_true rfl) dX7_reason_14 ⟨Nat.le_of_ble_eq_true rfl, Nat.le_of_ble_eq_true rfl⟩) ?_
    refine lv_if_ne (tgt := 24) hx hb dX7_reason_17 (by decide) (fun c_2 => ?_) (fun c_2 => ?_)
    · refine lv_iconst (v := 0) hx hb dX7_reason_24 (by decide) ?_
      have hE : f_X7_reason g len = 0 := (by rw [f_X7_reason, if_pos c_1, if_neg c_2])
      exact W.iret hx hb hr (fun t ht hW => ⟨by rw [hE], ht⟩) hS.2.2 dX7_reason_25
    · refine lv_iconst (v := 2) hx hb dX7_reason_20 (by decide) ?_
      refine lv_goto (tgt := 25) hx hb dX7_reason_21 (by decide) ?_
      have hE : f_X7_reason g len = 2 := (by rw [f_X7_reason, if_pos c_1, if_pos c_2])
      exact W.iret hx hb hr (fun t ht hW => ⟨by rw [hE], ht⟩) hS.2.2 dX7_reason_25
  · refine lv_iconst (v := 1) hx hb dX7_reason_8 (by decide) ?_
    refine lv_goto (tgt := 25) hx hb dX7_reason_9 (by decide) ?_
    have hE : f_X7_reason g len = 1 := (by rw [f_X7_reason, if_neg c_1])
    exact W.iret hx hb hr (fun t ht hW => ⟨by rw [hE], ht⟩) hS.2.2 dX7_reason_25

def f_X7_chance (g : Rw) : Int64 :=
  (jShl ((g 5).toInt64) 32) ||| (((g 6).toInt64) &&& 4294967295)
set_option maxHeartbeats 4000000 in
set_option maxRecDepth 100000 in
theorem c_X7_chance (l : Launch) (G : GG) (a : Nat) (g : Rw) : Met l yX7_chance wsX7_chance ({ frames := 0, cells := 0, slots := 0, locals := 0 }) (PcH G [.ref a] (Arr G 0 a 327 g)) (QP (some (.long (f_X7_chance g)))) 0 0 noA := by
  refine metH (cc := cX7_chance) (maxL := 1) (ret := (some .long)) (by decide) rfl ?_
  intro p e s m below meth cd hx hb hr hml hown hts hlocks hP hO
  have hS : va_S noA s.heap s.heap [] := va_S.rf
  have hl := lv_entry ([.ref a]) (n := 1) (Nat.le_of_ble_eq_true rfl)
  rw [lg_entry_eq]
  generalize (lg_sl ([.ref a]) ++ List.replicate (1 - (lg_sl ([.ref a])).length) Slot.unset).toArray = ls at hl ⊢
  have hl : lv_has ls 1 [(0, .ref a)] := hl
  refine lv_aload_n hx hb dX7_chance_0 rfl (lv_at hl 0 rfl) ?_
  refine lv_iconst (v := 5) hx hb dX7_chance_1 (by decide) ?_
  refine iald_n (k := 5) hx hb hO.1 hP 0 0 rfl rfl (by omega) (by decide) dX7_chance_2 ?_
  refine lv_i2l (v := (g 5).toInt64) hx hb dX7_chance_3 rfl ?_
  refine lv_bipush (v := 32) hx hb dX7_chance_4 (by decide) ?_
  refine lv_lshl (v := jShl ((g 5).toInt64) 32) hx hb dX7_chance_6 rfl ?_
  refine lv_aload_n hx hb dX7_chance_7 rfl (lv_at hl 0 rfl) ?_
  refine lv_bipush (v := 6) hx hb dX7_chance_8 (by decide) ?_
  refine iald_n (k := 6) hx hb hO.1 hP 0 0 rfl rfl (by omega) (by decide) dX7_chance_10 ?_
  refine lv_i2l (v := (g 6).toInt64) hx hb dX7_chance_11 rfl ?_
  refine lv_ldc2 (v := 4294967295) hx hb hown (hts (.constantLong RX7 79 (4294967295)) (by decide +kernel)) dX7_chance_12 ?_
  refine lv_land hx hb dX7_chance_15 ?_
  refine lv_lor hx hb dX7_chance_16 ?_
  have hE : f_X7_chance g = (jShl ((g 5).toInt64) 32) ||| (((g 6).toInt64) &&& 4294967295) := (by rw [f_X7_chance])
  exact W.lret hx hb hr (fun t ht hW => ⟨by rw [hE], ht⟩) hS.2.2 dX7_chance_17

def h_X7_layChance (g : Rw) (x : Int64) : Rw :=
  (upd (upd g 5 ((jShr x 32).toInt32)) 6 x.toInt32)
set_option maxHeartbeats 4000000 in
set_option maxRecDepth 100000 in
theorem c_X7_layChance (l : Launch) (G : GG) (a : Nat) (g : Rw) (x : Int64) : Met l yX7_layChance wsX7_layChance ({ frames := 0, cells := 0, slots := 0, locals := 0 }) (PcH G [.ref a, .long x] (Arr G 0 a 327 g)) (QM none (Arr G 0 a 327 (h_X7_layChance g x)) (one a)) 0 0 (one a) := by
  refine metH (cc := cX7_layChance) (maxL := 3) (ret := none) (by decide) rfl ?_
  intro p e s m below meth cd hx hb hr hml hown hts hlocks hP hO
  have hA : ∀ q, (one a) q → (one a) q := fun _ h => h
  have hS : va_S (one a) s.heap s.heap [] := va_S.rf
  have hl := lv_entry ([.ref a, .long x]) (n := 3) (Nat.le_of_ble_eq_true rfl)
  rw [lg_entry_eq]
  generalize (lg_sl ([.ref a, .long x]) ++ List.replicate (3 - (lg_sl ([.ref a, .long x])).length) Slot.unset).toArray = ls at hl ⊢
  have hl : lv_has ls 3 [(0, .ref a), (1, .long x)] := hl
  refine lv_aload_n hx hb dX7_layChance_0 rfl (lv_at hl 0 rfl) ?_
  refine lv_iconst (v := 5) hx hb dX7_layChance_1 (by decide) ?_
  refine lv_lload_n hx hb dX7_layChance_2 rfl (lv_at hl 1 rfl) ?_
  refine lv_bipush (v := 32) hx hb dX7_layChance_3 (by decide) ?_
  refine lv_lshr (v := jShr x 32) hx hb dX7_layChance_5 rfl ?_
  refine lv_l2i (v := (jShr x 32).toInt32) hx hb dX7_layChance_6 rfl ?_
  refine iast_n (k := 5) hx hb hO.1 hP (Arr_D (hA _ rfl)) hS 0 0 rfl rfl (by omega) (by decide) dX7_layChance_7 (fun H locs hP hD hS => ?_)
  have hP : Arr G 0 a 327 (upd g 5 ((jShr x 32).toInt32)) H := id hP
  refine lv_aload_n hx hb dX7_layChance_8 rfl (lv_at hl 0 rfl) ?_
  refine lv_bipush (v := 6) hx hb dX7_layChance_9 (by decide) ?_
  refine lv_lload_n hx hb dX7_layChance_11 rfl (lv_at hl 1 rfl) ?_
  refine lv_l2i (v := x.toInt32) hx hb dX7_layChance_12 rfl ?_
  refine iast_n (k := 6) hx hb hO.1 hP (Arr_D (hA _ rfl)) hS 0 0 rfl rfl (by omega) (by decide) dX7_layChance_13 (fun H locs hP hD hS => ?_)
  have hP : Arr G 0 a 327 (upd (upd g 5 ((jShr x 32).toInt32)) 6 x.toInt32) H := id hP
  have hE : h_X7_layChance g x = (upd (upd g 5 ((jShr x 32).toInt32)) 6 x.toInt32) := (by rw [h_X7_layChance])
  exact W.vret hx hb hr (fun t ht hW => ⟨rfl, by rw [ht, hE]; exact hP, hS.F ht⟩) hS.2.2 dX7_layChance_14

def lp_rPick (len : Int32) : Nat → Int32 → Nat → Rw → Int32 × Rw
  | 0, _, _, g2 => (-1, g2)
  | n + 1, left, k, g2 => if 80 ≤ (nI k) then ((-1), g2) else
    if (nI (f_X7_gapCells g2 k)) < (len + (g2 3)) then (if 0 ≤ left then lp_rPick len n (left - 0) (f_X7_nextGap g2 k) g2 else
      ((nI k) + left, g2)) else
    if (((nI (f_X7_gapCells g2 k)) - len) + 1) ≤ left then lp_rPick len n (left - (((nI (f_X7_gapCells g2 k)) - len) + 1)) (f_X7_nextGap g2 k) g2 else
    ((nI k) + left, g2)
def lp_rAll (g : Rw) (len : Int32) : Nat → Int32 → Nat → Int32 × Rw
  | 0, _, _ => (-1, g)
  | n + 1, all, k => if 80 ≤ (nI k) then (if all = 0 then ((-1), g) else
      lp_rPick len 81 (((jUshr (((f_X7_chance g) * 6364136223846793005) + 1442695040888963407) 33).toInt32) - ((jUshr (((f_X7_chance g) * 6364136223846793005) + 1442695040888963407) 33).toInt32) / all * all) (f_X7_gapFrom (h_X7_layChance g (((f_X7_chance g) * 6364136223846793005) + 1442695040888963407)) 0) (h_X7_layChance g (((f_X7_chance g) * 6364136223846793005) + 1442695040888963407))) else
    if (nI (f_X7_gapCells g k)) < (len + (g 3)) then lp_rAll g len n (all + 0) (f_X7_nextGap g k) else
    lp_rAll g len n (all + (((nI (f_X7_gapCells g k)) - len) + 1)) (f_X7_nextGap g k)
def h_X7_byChance (g : Rw) (len : Int32) : Int32 × Rw :=
  lp_rAll g len 81 0 (f_X7_gapFrom g 0)
set_option maxHeartbeats 4000000 in
set_option maxRecDepth 100000 in
theorem c_X7_byChance (l : Launch) (G : GG) (a : Nat) (g : Rw) (len : Int32) : Met l yX7_byChance wsX7_byChance ({ frames := 2, cells := 0, slots := 0, locals := 43 }) (PcH G [.ref a, .int len] (Arr G 0 a 327 g)) (QM (some (.int ((h_X7_byChance g len).1))) (Arr G 0 a 327 ((h_X7_byChance g len).2)) (one a)) 0 0 (one a) := by
  refine metH (cc := cX7_byChance) (maxL := 8) (ret := (some .int)) (by decide) rfl ?_
  intro p e s m below meth cd hx hb hr hml hown hts hlocks hP hO
  have hA : ∀ q, (one a) q → (one a) q := fun _ h => h
  have hS : va_S (one a) s.heap s.heap [] := va_S.rf
  have hl := lv_entry ([.ref a, .int len]) (n := 8) (Nat.le_of_ble_eq_true rfl)
  rw [lg_entry_eq]
  generalize (lg_sl ([.ref a, .int len]) ++ List.replicate (8 - (lg_sl ([.ref a, .int len])).length) Slot.unset).toArray = ls at hl ⊢
  have hl : lv_has ls 8 [(0, .ref a), (1, .int len)] := hl
  have loop92 : ∀ (n : Nat) (left : Int32) (k : Nat) (g2 : Rw), k ≤ 80 → 80 < k + n → h_X7_byChance g len = lp_rPick len n left k g2 → ∀ (H : Heap) (locs : List Loc) (ls : Array Slot), Arr G 0 a 327 g2 H → va_S (one a) s.heap H locs → lv_has ls 8 [(0, .ref a), (1, .int len), (5, .int left), (6, .int (nI k))] → W p l e (headSpec wsX7_byChance ({ frames := 2, cells := 0, slots := 0, locals := 43 } : Room)).room s m ([.ref a, .int len] : List Value).toArray below meth cd H locs 0 0 (MQ below (QM (some (.int ((h_X7_byChance g len).1))) (Arr G 0 a 327 ((h_X7_byChance g len).2)) (one a)) ([.ref a, .int len] : List Value).toArray s 0 0 (one a)) (F0 m 92 ls []) := by
    intro n
    induction n with
    | zero =>
      intro left k g2 hk hn hR H locs ls hP hS hl
      exact absurd hn (by omega)
    | succ n ih =>
      intro left k g2 hk hn hR H locs ls hP hS hl
      refine lv_iload hx hb dX7_byChance_92 (lv_at hl 3 rfl) ?_
      refine lv_bipush (v := 80) hx hb dX7_byChance_94 (by decide) ?_
      refine lv_icmp_ge (tgt := 160) hx hb dX7_byChance_96 (by decide) (fun c_1 => ?_) (fun c_1 => ?_)
      · refine lv_iconst (v := -1) hx hb dX7_byChance_160 (by decide) ?_
        have hE : h_X7_byChance g len = ((-1), g2) := (hR.trans (by rw [lp_rPick, if_pos c_1]))
        have hE2 := snd_of hE
        exact W.iret hx hb hr (fun t ht hW => ⟨by rw [fst_of hE], by rw [ht, hE2]; exact hP, hS.F ht⟩) hS.2.2 dX7_byChance_161
      · have hlt : k < 80 := kN (B := 80) c_1 (by omega) (by omega)
        refine lv_aload_n hx hb dX7_byChance_99 rfl (lv_at hl 0 rfl) ?_
        refine lv_iload hx hb dX7_byChance_100 (lv_at hl 3 rfl) ?_
        refine cl_pi (rS (As := [.ref a, .int (nI k)]) (rest := []) ⟨hx, hb, hml, hown, hts⟩ (c_X7_gapCells l G a g2 k (by omega)) (va_cwS 2 hts gX7_byChance_X7_gapCells rfl rfl rfl (by decide +kernel) ⟨Nat.le_of_ble_eq_true rfl, Nat.le_of_ble_eq_true rfl⟩) hP hO rfl hl.1 (Nat.le_of_ble_eq_true rfl) dX7_byChance_102 ⟨Nat.le_of_ble_eq_true rfl, Nat.le_of_ble_eq_true rfl⟩) ?_
        refine lv_iload_n hx hb dX7_byChance_105 rfl (lv_at hl 1 rfl) ?_
        refine lv_aload_n hx hb dX7_byChance_106 rfl (lv_at hl 0 rfl) ?_
        refine lv_iconst (v := 3) hx hb dX7_byChance_107 (by decide) ?_
        refine iald_n (k := 3) hx hb hO.1 hP 0 0 rfl rfl (by omega) (by decide) dX7_byChance_108 ?_
        refine lv_iadd hx hb dX7_byChance_109 ?_
        refine lv_icmp_lt (tgt := 126) hx hb dX7_byChance_110 (by decide) (fun c_2 => ?_) (fun c_2 => ?_)
        · refine lv_iconst (v := 0) hx hb dX7_byChance_126 (by decide) ?_
          refine lv_istore (lv' := [(7, .int 0), (0, .ref a), (1, .int len), (5, .int left), (6, .int (nI k))]) hx hb dX7_byChance_127 hl (by decide) rfl (fun ls hl => ?_)
          refine lv_iload hx hb dX7_byChance_129 (lv_at hl 3 rfl) ?_
          refine lv_iload hx hb dX7_byChance_131 (lv_at hl 0 rfl) ?_
          refine lv_icmp_ge (tgt := 142) hx hb dX7_byChance_133 (by decide) (fun c_3 => ?_) (fun c_3 => ?_)
          · refine lv_iload hx hb dX7_byChance_142 (lv_at hl 3 rfl) ?_
            refine lv_iload hx hb dX7_byChance_144 (lv_at hl 0 rfl) ?_
            refine lv_isub hx hb dX7_byChance_146 ?_
            refine lv_istore (lv' := [(5, .int (left - 0)), (7, .int 0), (0, .ref a), (1, .int len), (6, .int (nI k))]) hx hb dX7_byChance_147 hl (by decide) rfl (fun ls hl => ?_)
            refine lv_aload_n hx hb dX7_byChance_149 rfl (lv_at hl 2 rfl) ?_
            refine lv_iload hx hb dX7_byChance_150 (lv_at hl 4 rfl) ?_
            refine cl_pi (rS (As := [.ref a, .int (nI k)]) (rest := []) ⟨hx, hb, hml, hown, hts⟩ (c_X7_nextGap l G a g2 k (by omega)) (va_cwS 2 hts gX7_byChance_X7_nextGap rfl rfl rfl (by decide +kernel) ⟨Nat.le_of_ble_eq_true rfl, Nat.le_of_ble_eq_true rfl⟩) hP hO rfl hl.1 (Nat.le_of_ble_eq_true rfl) dX7_byChance_152 ⟨Nat.le_of_ble_eq_true rfl, Nat.le_of_ble_eq_true rfl⟩) ?_
            refine lv_istore (lv' := [(6, .int (nI (f_X7_nextGap g2 k))), (5, .int (left - 0)), (7, .int 0), (0, .ref a), (1, .int len)]) hx hb dX7_byChance_155 hl (by decide) rfl (fun ls hl => ?_)
            refine lv_goto (tgt := 92) hx hb dX7_byChance_157 (by decide) ?_
            have hE_4 : h_X7_byChance g len = lp_rPick len n (left - 0) (f_X7_nextGap g2 k) g2 := (hR.trans (by rw [lp_rPick, if_neg c_1, if_pos c_2, if_pos c_3]))
            exact ih (left - 0) (f_X7_nextGap g2 k) g2 (next_gt g2 hlt).2 (by have h9 := (next_gt g2 hlt).1; omega) hE_4 _ _ _ hP hS (lv_sub hl [3, 4, 1, 0] rfl)
          · refine lv_iload hx hb dX7_byChance_136 (lv_at hl 4 rfl) ?_
            refine lv_iload hx hb dX7_byChance_138 (lv_at hl 3 rfl) ?_
            refine lv_iadd hx hb dX7_byChance_140 ?_
            have hE : h_X7_byChance g len = ((nI k) + left, g2) := (hR.trans (by rw [lp_rPick, if_neg c_1, if_pos c_2, if_neg c_3]))
            have hE2 := snd_of hE
            exact W.iret hx hb hr (fun t ht hW => ⟨by rw [fst_of hE], by rw [ht, hE2]; exact hP, hS.F ht⟩) hS.2.2 dX7_byChance_141
        · refine lv_aload_n hx hb dX7_byChance_113 rfl (lv_at hl 0 rfl) ?_
          refine lv_iload hx hb dX7_byChance_114 (lv_at hl 3 rfl) ?_
          refine cl_pi (rS (As := [.ref a, .int (nI k)]) (rest := []) ⟨hx, hb, hml, hown, hts⟩ (c_X7_gapCells l G a g2 k (by omega)) (va_cwS 2 hts gX7_byChance_X7_gapCells rfl rfl rfl (by decide +kernel) ⟨Nat.le_of_ble_eq_true rfl, Nat.le_of_ble_eq_true rfl⟩) hP hO rfl hl.1 (Nat.le_of_ble_eq_true rfl) dX7_byChance_116 ⟨Nat.le_of_ble_eq_true rfl, Nat.le_of_ble_eq_true rfl⟩) ?_
          refine lv_iload_n hx hb dX7_byChance_119 rfl (lv_at hl 1 rfl) ?_
          refine lv_isub hx hb dX7_byChance_120 ?_
          refine lv_iconst (v := 1) hx hb dX7_byChance_121 (by decide) ?_
          refine lv_iadd hx hb dX7_byChance_122 ?_
          refine lv_goto (tgt := 127) hx hb dX7_byChance_123 (by decide) ?_
          refine lv_istore (lv' := [(7, .int (((nI (f_X7_gapCells g2 k)) - len) + 1)), (0, .ref a), (1, .int len), (5, .int left), (6, .int (nI k))]) hx hb dX7_byChance_127 hl (by decide) rfl (fun ls hl => ?_)
          refine lv_iload hx hb dX7_byChance_129 (lv_at hl 3 rfl) ?_
          refine lv_iload hx hb dX7_byChance_131 (lv_at hl 0 rfl) ?_
          refine lv_icmp_ge (tgt := 142) hx hb dX7_byChance_133 (by decide) (fun c_5 => ?_) (fun c_5 => ?_)
          · refine lv_iload hx hb dX7_byChance_142 (lv_at hl 3 rfl) ?_
            refine lv_iload hx hb dX7_byChance_144 (lv_at hl 0 rfl) ?_
            refine lv_isub hx hb dX7_byChance_146 ?_
            refine lv_istore (lv' := [(5, .int (left - (((nI (f_X7_gapCells g2 k)) - len) + 1))), (7, .int (((nI (f_X7_gapCells g2 k)) - len) + 1)), (0, .ref a), (1, .int len), (6, .int (nI k))]) hx hb dX7_byChance_147 hl (by decide) rfl (fun ls hl => ?_)
            refine lv_aload_n hx hb dX7_byChance_149 rfl (lv_at hl 2 rfl) ?_
            refine lv_iload hx hb dX7_byChance_150 (lv_at hl 4 rfl) ?_
            refine cl_pi (rS (As := [.ref a, .int (nI k)]) (rest := []) ⟨hx, hb, hml, hown, hts⟩ (c_X7_nextGap l G a g2 k (by omega)) (va_cwS 2 hts gX7_byChance_X7_nextGap rfl rfl rfl (by decide +kernel) ⟨Nat.le_of_ble_eq_true rfl, Nat.le_of_ble_eq_true rfl⟩) hP hO rfl hl.1 (Nat.le_of_ble_eq_true rfl) dX7_byChance_152 ⟨Nat.le_of_ble_eq_true rfl, Nat.le_of_ble_eq_true rfl⟩) ?_
            refine lv_istore (lv' := [(6, .int (nI (f_X7_nextGap g2 k))), (5, .int (left - (((nI (f_X7_gapCells g2 k)) - len) + 1))), (7, .int (((nI (f_X7_gapCells g2 k)) - len) + 1)), (0, .ref a), (1, .int len)]) hx hb dX7_byChance_155 hl (by decide) rfl (fun ls hl => ?_)
            refine lv_goto (tgt := 92) hx hb dX7_byChance_157 (by decide) ?_
            have hE_6 : h_X7_byChance g len = lp_rPick len n (left - (((nI (f_X7_gapCells g2 k)) - len) + 1)) (f_X7_nextGap g2 k) g2 := (hR.trans (by rw [lp_rPick, if_neg c_1, if_neg c_2, if_pos c_5]))
            exact ih (left - (((nI (f_X7_gapCells g2 k)) - len) + 1)) (f_X7_nextGap g2 k) g2 (next_gt g2 hlt).2 (by have h9 := (next_gt g2 hlt).1; omega) hE_6 _ _ _ hP hS (lv_sub hl [3, 4, 1, 0] rfl)
          · refine lv_iload hx hb dX7_byChance_136 (lv_at hl 4 rfl) ?_
            refine lv_iload hx hb dX7_byChance_138 (lv_at hl 3 rfl) ?_
            refine lv_iadd hx hb dX7_byChance_140 ?_
            have hE : h_X7_byChance g len = ((nI k) + left, g2) := (hR.trans (by rw [lp_rPick, if_neg c_1, if_neg c_2, if_neg c_5]))
            have hE2 := snd_of hE
            exact W.iret hx hb hr (fun t ht hW => ⟨by rw [fst_of hE], by rw [ht, hE2]; exact hP, hS.F ht⟩) hS.2.2 dX7_byChance_141
  have loop8 : ∀ (n : Nat) (all : Int32) (k : Nat) , k ≤ 80 → 80 < k + n → h_X7_byChance g len = lp_rAll g len n all k → ∀ (H : Heap) (locs : List Loc) (ls : Array Slot), Arr G 0 a 327 g H → va_S (one a) s.heap H locs → lv_has ls 8 [(0, .ref a), (1, .int len), (2, .int all), (3, .int (nI k))] → W p l e (headSpec wsX7_byChance ({ frames := 2, cells := 0, slots := 0, locals := 43 } : Room)).room s m ([.ref a, .int len] : List Value).toArray below meth cd H locs 0 0 (MQ below (QM (some (.int ((h_X7_byChance g len).1))) (Arr G 0 a 327 ((h_X7_byChance g len).2)) (one a)) ([.ref a, .int len] : List Value).toArray s 0 0 (one a)) (F0 m 8 ls []) := by
    intro n
    induction n with
    | zero =>
      intro all k hk hn hR H locs ls hP hS hl
      exact absurd hn (by omega)
    | succ n ih =>
      intro all k hk hn hR H locs ls hP hS hl
      refine lv_iload_n hx hb dX7_byChance_8 rfl (lv_at hl 3 rfl) ?_
      refine lv_bipush (v := 80) hx hb dX7_byChance_9 (by decide) ?_
      refine lv_icmp_ge (tgt := 52) hx hb dX7_byChance_11 (by decide) (fun c_7 => ?_) (fun c_7 => ?_)
      · refine lv_iload_n hx hb dX7_byChance_52 rfl (lv_at hl 2 rfl) ?_
        refine lv_if_ne (tgt := 58) hx hb dX7_byChance_53 (by decide) (fun c_8 => ?_) (fun c_8 => ?_)
        · refine lv_aload_n hx hb dX7_byChance_58 rfl (lv_at hl 0 rfl) ?_
          refine cl_pl (rS (As := [.ref a]) (rest := []) ⟨hx, hb, hml, hown, hts⟩ (c_X7_chance l G a g) (va_cwS 1 hts gX7_byChance_X7_chance rfl rfl rfl (by decide +kernel) ⟨Nat.le_of_ble_eq_true rfl, Nat.le_of_ble_eq_true rfl⟩) hP hO rfl hl.1 (Nat.le_of_ble_eq_true rfl) dX7_byChance_59 ⟨Nat.le_of_ble_eq_true rfl, Nat.le_of_ble_eq_true rfl⟩) ?_
          refine lv_ldc2 (v := 6364136223846793005) hx hb hown (hts (.constantLong RX7 85 (6364136223846793005)) (by decide +kernel)) dX7_byChance_62 ?_
          refine lv_lmul hx hb dX7_byChance_65 ?_
          refine lv_ldc2 (v := 1442695040888963407) hx hb hown (hts (.constantLong RX7 87 (1442695040888963407)) (by decide +kernel)) dX7_byChance_66 ?_
          refine lv_ladd hx hb dX7_byChance_69 ?_
          refine lv_lstore_n (lv' := [(3, .long (((f_X7_chance g) * 6364136223846793005) + 1442695040888963407)), (0, .ref a), (1, .int len), (2, .int all)]) hx hb dX7_byChance_70 rfl hl (by decide) rfl (fun ls hl => ?_)
          refine lv_aload_n hx hb dX7_byChance_71 rfl (lv_at hl 1 rfl) ?_
          refine lv_lload_n hx hb dX7_byChance_72 rfl (lv_at hl 0 rfl) ?_
          refine cl_mv (rS (As := [.ref a, .long (((f_X7_chance g) * 6364136223846793005) + 1442695040888963407)]) (rest := []) ⟨hx, hb, hml, hown, hts⟩ (c_X7_layChance l G a g (((f_X7_chance g) * 6364136223846793005) + 1442695040888963407)) (va_cwS 2 hts gX7_byChance_X7_layChance rfl rfl rfl (by decide +kernel) ⟨Nat.le_of_ble_eq_true rfl, Nat.le_of_ble_eq_true rfl⟩) hP hO rfl hl.1 (Nat.le_of_ble_eq_true rfl) dX7_byChance_73 ⟨Nat.le_of_ble_eq_true rfl, Nat.le_of_ble_eq_true rfl⟩) hS hA (fun H locs hP1 hz hk hS => ?_)
          have hP : Arr G 0 a 327 (h_X7_layChance g (((f_X7_chance g) * 6364136223846793005) + 1442695040888963407)) H := hP1
          refine lv_lload_n hx hb dX7_byChance_76 rfl (lv_at hl 0 rfl) ?_
          refine lv_bipush (v := 33) hx hb dX7_byChance_77 (by decide) ?_
          refine lv_lushr (v := jUshr (((f_X7_chance g) * 6364136223846793005) + 1442695040888963407) 33) hx hb dX7_byChance_79 rfl ?_
          refine lv_l2i (v := (jUshr (((f_X7_chance g) * 6364136223846793005) + 1442695040888963407) 33).toInt32) hx hb dX7_byChance_80 rfl ?_
          refine lv_iload_n hx hb dX7_byChance_81 rfl (lv_at hl 3 rfl) ?_
          refine lv_irem hx hb dX7_byChance_82 (by assumption) ?_
          refine lv_istore (lv' := [(5, .int (((jUshr (((f_X7_chance g) * 6364136223846793005) + 1442695040888963407) 33).toInt32) - ((jUshr (((f_X7_chance g) * 6364136223846793005) + 1442695040888963407) 33).toInt32) / all * all)), (3, .long (((f_X7_chance g) * 6364136223846793005) + 1442695040888963407)), (0, .ref a), (1, .int len), (2, .int all)]) hx hb dX7_byChance_83 hl (by decide) rfl (fun ls hl => ?_)
          refine lv_aload_n hx hb dX7_byChance_85 rfl (lv_at hl 2 rfl) ?_
          refine lv_iconst (v := 0) hx hb dX7_byChance_86 (by decide) ?_
          refine cl_pi (rS (As := [.ref a, .int 0]) (rest := []) ⟨hx, hb, hml, hown, hts⟩ (c_X7_gapFrom l G a (h_X7_layChance g (((f_X7_chance g) * 6364136223846793005) + 1442695040888963407)) 0 (by omega)) (va_cwS 2 hts gX7_byChance_X7_gapFrom rfl rfl rfl (by decide +kernel) ⟨Nat.le_of_ble_eq_true rfl, Nat.le_of_ble_eq_true rfl⟩) hP hO rfl hl.1 (Nat.le_of_ble_eq_true rfl) dX7_byChance_87 ⟨Nat.le_of_ble_eq_true rfl, Nat.le_of_ble_eq_true rfl⟩) ?_
          refine lv_istore (lv' := [(6, .int (nI (f_X7_gapFrom (h_X7_layChance g (((f_X7_chance g) * 6364136223846793005) + 1442695040888963407)) 0))), (5, .int (((jUshr (((f_X7_chance g) * 6364136223846793005) + 1442695040888963407) 33).toInt32) - ((jUshr (((f_X7_chance g) * 6364136223846793005) + 1442695040888963407) 33).toInt32) / all * all)), (3, .long (((f_X7_chance g) * 6364136223846793005) + 1442695040888963407)), (0, .ref a), (1, .int len), (2, .int all)]) hx hb dX7_byChance_90 hl (by decide) rfl (fun ls hl => ?_)
          have hE_9 : h_X7_byChance g len = lp_rPick len 81 (((jUshr (((f_X7_chance g) * 6364136223846793005) + 1442695040888963407) 33).toInt32) - ((jUshr (((f_X7_chance g) * 6364136223846793005) + 1442695040888963407) 33).toInt32) / all * all) (f_X7_gapFrom (h_X7_layChance g (((f_X7_chance g) * 6364136223846793005) + 1442695040888963407)) 0) (h_X7_layChance g (((f_X7_chance g) * 6364136223846793005) + 1442695040888963407)) := (hR.trans (by rw [lp_rAll, if_pos c_7, if_neg c_8]))
          exact loop92 81 (((jUshr (((f_X7_chance g) * 6364136223846793005) + 1442695040888963407) 33).toInt32) - ((jUshr (((f_X7_chance g) * 6364136223846793005) + 1442695040888963407) 33).toInt32) / all * all) (f_X7_gapFrom (h_X7_layChance g (((f_X7_chance g) * 6364136223846793005) + 1442695040888963407)) 0) (h_X7_layChance g (((f_X7_chance g) * 6364136223846793005) + 1442695040888963407)) (from_le _ (by omega)).2 (by omega) hE_9 _ _ _ hP hS (lv_sub hl [3, 4, 1, 0] rfl)
        · refine lv_iconst (v := -1) hx hb dX7_byChance_56 (by decide) ?_
          have hE : h_X7_byChance g len = ((-1), g) := (hR.trans (by rw [lp_rAll, if_pos c_7, if_pos c_8]))
          have hE2 := snd_of hE
          exact W.iret hx hb hr (fun t ht hW => ⟨by rw [fst_of hE], by rw [ht, hE2]; exact hP, hS.F ht⟩) hS.2.2 dX7_byChance_57
      · have hlt : k < 80 := kN (B := 80) c_7 (by omega) (by omega)
        refine lv_iload_n hx hb dX7_byChance_14 rfl (lv_at hl 2 rfl) ?_
        refine lv_aload_n hx hb dX7_byChance_15 rfl (lv_at hl 0 rfl) ?_
        refine lv_iload_n hx hb dX7_byChance_16 rfl (lv_at hl 3 rfl) ?_
        refine cl_pi (rS (As := [.ref a, .int (nI k)]) (rest := [.int all]) ⟨hx, hb, hml, hown, hts⟩ (c_X7_gapCells l G a g k (by omega)) (va_cwS 2 hts gX7_byChance_X7_gapCells rfl rfl rfl (by decide +kernel) ⟨Nat.le_of_ble_eq_true rfl, Nat.le_of_ble_eq_true rfl⟩) hP hO rfl hl.1 (Nat.le_of_ble_eq_true rfl) dX7_byChance_17 ⟨Nat.le_of_ble_eq_true rfl, Nat.le_of_ble_eq_true rfl⟩) ?_
        refine lv_iload_n hx hb dX7_byChance_20 rfl (lv_at hl 1 rfl) ?_
        refine lv_aload_n hx hb dX7_byChance_21 rfl (lv_at hl 0 rfl) ?_
        refine lv_iconst (v := 3) hx hb dX7_byChance_22 (by decide) ?_
        refine iald_n (k := 3) hx hb hO.1 hP 0 0 rfl rfl (by omega) (by decide) dX7_byChance_23 ?_
        refine lv_iadd hx hb dX7_byChance_24 ?_
        refine lv_icmp_lt (tgt := 40) hx hb dX7_byChance_25 (by decide) (fun c_10 => ?_) (fun c_10 => ?_)
        · refine lv_iconst (v := 0) hx hb dX7_byChance_40 (by decide) ?_
          refine lv_iadd hx hb dX7_byChance_41 ?_
          refine lv_istore_n (lv' := [(2, .int (all + 0)), (0, .ref a), (1, .int len), (3, .int (nI k))]) hx hb dX7_byChance_42 rfl hl (by decide) rfl (fun ls hl => ?_)
          refine lv_aload_n hx hb dX7_byChance_43 rfl (lv_at hl 1 rfl) ?_
          refine lv_iload_n hx hb dX7_byChance_44 rfl (lv_at hl 3 rfl) ?_
          refine cl_pi (rS (As := [.ref a, .int (nI k)]) (rest := []) ⟨hx, hb, hml, hown, hts⟩ (c_X7_nextGap l G a g k (by omega)) (va_cwS 2 hts gX7_byChance_X7_nextGap rfl rfl rfl (by decide +kernel) ⟨Nat.le_of_ble_eq_true rfl, Nat.le_of_ble_eq_true rfl⟩) hP hO rfl hl.1 (Nat.le_of_ble_eq_true rfl) dX7_byChance_45 ⟨Nat.le_of_ble_eq_true rfl, Nat.le_of_ble_eq_true rfl⟩) ?_
          refine lv_istore_n (lv' := [(3, .int (nI (f_X7_nextGap g k))), (2, .int (all + 0)), (0, .ref a), (1, .int len)]) hx hb dX7_byChance_48 rfl hl (by decide) rfl (fun ls hl => ?_)
          refine lv_goto (tgt := 8) hx hb dX7_byChance_49 (by decide) ?_
          have hE_11 : h_X7_byChance g len = lp_rAll g len n (all + 0) (f_X7_nextGap g k) := (hR.trans (by rw [lp_rAll, if_neg c_7, if_pos c_10]))
          exact ih (all + 0) (f_X7_nextGap g k) (next_gt g hlt).2 (by have h9 := (next_gt g hlt).1; omega) hE_11 _ _ _ hP hS (lv_sub hl [2, 3, 1, 0] rfl)
        · refine lv_aload_n hx hb dX7_byChance_28 rfl (lv_at hl 0 rfl) ?_
          refine lv_iload_n hx hb dX7_byChance_29 rfl (lv_at hl 3 rfl) ?_
          refine cl_pi (rS (As := [.ref a, .int (nI k)]) (rest := [.int all]) ⟨hx, hb, hml, hown, hts⟩ (c_X7_gapCells l G a g k (by omega)) (va_cwS 2 hts gX7_byChance_X7_gapCells rfl rfl rfl (by decide +kernel) ⟨Nat.le_of_ble_eq_true rfl, Nat.le_of_ble_eq_true rfl⟩) hP hO rfl hl.1 (Nat.le_of_ble_eq_true rfl) dX7_byChance_30 ⟨Nat.le_of_ble_eq_true rfl, Nat.le_of_ble_eq_true rfl⟩) ?_
          refine lv_iload_n hx hb dX7_byChance_33 rfl (lv_at hl 1 rfl) ?_
          refine lv_isub hx hb dX7_byChance_34 ?_
          refine lv_iconst (v := 1) hx hb dX7_byChance_35 (by decide) ?_
          refine lv_iadd hx hb dX7_byChance_36 ?_
          refine lv_goto (tgt := 41) hx hb dX7_byChance_37 (by decide) ?_
          refine lv_iadd hx hb dX7_byChance_41 ?_
          refine lv_istore_n (lv' := [(2, .int (all + (((nI (f_X7_gapCells g k)) - len) + 1))), (0, .ref a), (1, .int len), (3, .int (nI k))]) hx hb dX7_byChance_42 rfl hl (by decide) rfl (fun ls hl => ?_)
          refine lv_aload_n hx hb dX7_byChance_43 rfl (lv_at hl 1 rfl) ?_
          refine lv_iload_n hx hb dX7_byChance_44 rfl (lv_at hl 3 rfl) ?_
          refine cl_pi (rS (As := [.ref a, .int (nI k)]) (rest := []) ⟨hx, hb, hml, hown, hts⟩ (c_X7_nextGap l G a g k (by omega)) (va_cwS 2 hts gX7_byChance_X7_nextGap rfl rfl rfl (by decide +kernel) ⟨Nat.le_of_ble_eq_true rfl, Nat.le_of_ble_eq_true rfl⟩) hP hO rfl hl.1 (Nat.le_of_ble_eq_true rfl) dX7_byChance_45 ⟨Nat.le_of_ble_eq_true rfl, Nat.le_of_ble_eq_true rfl⟩) ?_
          refine lv_istore_n (lv' := [(3, .int (nI (f_X7_nextGap g k))), (2, .int (all + (((nI (f_X7_gapCells g k)) - len) + 1))), (0, .ref a), (1, .int len)]) hx hb dX7_byChance_48 rfl hl (by decide) rfl (fun ls hl => ?_)
          refine lv_goto (tgt := 8) hx hb dX7_byChance_49 (by decide) ?_
          have hE_12 : h_X7_byChance g len = lp_rAll g len n (all + (((nI (f_X7_gapCells g k)) - len) + 1)) (f_X7_nextGap g k) := (hR.trans (by rw [lp_rAll, if_neg c_7, if_neg c_10]))
          exact ih (all + (((nI (f_X7_gapCells g k)) - len) + 1)) (f_X7_nextGap g k) (next_gt g hlt).2 (by have h9 := (next_gt g hlt).1; omega) hE_12 _ _ _ hP hS (lv_sub hl [2, 3, 1, 0] rfl)
  refine lv_iconst (v := 0) hx hb dX7_byChance_0 (by decide) ?_
  refine lv_istore_n (lv' := [(2, .int 0), (0, .ref a), (1, .int len)]) hx hb dX7_byChance_1 rfl hl (by decide) rfl (fun ls hl => ?_)
  refine lv_aload_n hx hb dX7_byChance_2 rfl (lv_at hl 1 rfl) ?_
  refine lv_iconst (v := 0) hx hb dX7_byChance_3 (by decide) ?_
  refine cl_pi (rS (As := [.ref a, .int 0]) (rest := []) ⟨hx, hb, hml, hown, hts⟩ (c_X7_gapFrom l G a g 0 (by omega)) (va_cwS 2 hts gX7_byChance_X7_gapFrom rfl rfl rfl (by decide +kernel) ⟨Nat.le_of_ble_eq_true rfl, Nat.le_of_ble_eq_true rfl⟩) hP hO rfl hl.1 (Nat.le_of_ble_eq_true rfl) dX7_byChance_4 ⟨Nat.le_of_ble_eq_true rfl, Nat.le_of_ble_eq_true rfl⟩) ?_
  refine lv_istore_n (lv' := [(3, .int (nI (f_X7_gapFrom g 0))), (2, .int 0), (0, .ref a), (1, .int len)]) hx hb dX7_byChance_7 rfl hl (by decide) rfl (fun ls hl => ?_)
  have hE_13 : h_X7_byChance g len = lp_rAll g len 81 0 (f_X7_gapFrom g 0) := (by rw [h_X7_byChance])
  exact loop8 81 0 (f_X7_gapFrom g 0) (from_le g (by omega)).2 (by omega) hE_13 _ _ _ hP hS (lv_sub hl [2, 3, 1, 0] rfl)
