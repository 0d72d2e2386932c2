def h_X5_doCommand (X : Tt) (S : St) (i : Int32) : Int32 × St :=
  if (f_X5_letterAt X i) = 99 then ((h_X4_arrive S (f_X5_digit X (i + 1)) (f_X5_twoDigits X (i + 2))).1, (h_X4_arrive S (f_X5_digit X (i + 1)) (f_X5_twoDigits X (i + 2))).2) else
  if (f_X5_letterAt X i) = 104 then (if (f_X5_letterAt X (i + 3)) = 43 then ((h_X4_putHydrant S (f_X5_twoDigits X (i + 1)) 1).1, (h_X4_putHydrant S (f_X5_twoDigits X (i + 1)) 1).2) else
    ((h_X4_putHydrant S (f_X5_twoDigits X (i + 1)) 0).1, (h_X4_putHydrant S (f_X5_twoDigits X (i + 1)) 0).2)) else
  if (f_X5_letterAt X i) = 108 then ((h_X4_depart S (f_X5_twoDigits X (i + 1)) 2).1, (h_X4_depart S (f_X5_twoDigits X (i + 1)) 2).2) else
  if (f_X5_letterAt X i) = 109 then ((h_X4_shift S (f_X5_twoDigits X (i + 1)) (f_X5_twoDigits X (i + 3))).1, (h_X4_shift S (f_X5_twoDigits X (i + 1)) (f_X5_twoDigits X (i + 3))).2) else
  if (f_X5_letterAt X i) = 112 then ((h_X4_passMinutes S (f_X5_twoDigits X (i + 1))).1, (h_X4_passMinutes S (f_X5_twoDigits X (i + 1))).2) else
  if (f_X5_letterAt X i) = 114 then ((h_X4_changeSetting S 0 (f_X5_digit X (i + 1))).1, (h_X4_changeSetting S 0 (f_X5_digit X (i + 1))).2) else
  if (f_X5_letterAt X i) = 116 then ((h_X4_depart S (f_X5_twoDigits X (i + 1)) 4).1, (h_X4_depart S (f_X5_twoDigits X (i + 1)) 4).2) else
  ((-1), S)
set_option maxHeartbeats 4000000 in
set_option maxRecDepth 100000 in
theorem c_X5_doCommand (l : Launch) (G : GG) (t a : Nat) (X : Tt) (S : St) (i : Int32) : Met l yX5_doCommand wsX5_doCommand ({ frames := 5, cells := 0, slots := 0, locals := 116 }) (PcH G [.ref t, .int i, .ref a] (fun H => Str G a S H ∧ Tx G t X H)) (QM (some (.int ((h_X5_doCommand X S i).1))) (Str G a ((h_X5_doCommand X S i).2)) (blk a (a + 9))) 0 0 (blk a (a + 9)) := by
  refine metH (cc := cX5_doCommand) (maxL := 3) (ret := (some .int)) (by decide) rfl ?_
  intro p e s m below meth cd hx hb hr hml hown hts hlocks hP hO
  obtain ⟨hP, hQ1⟩ := hP
  have hA : ∀ q, (blk a (a + 9)) q → (blk a (a + 9)) q := fun _ h => h
  have hS : va_S (blk a (a + 9)) s.heap s.heap [] := va_S.rf
  have hl := lv_entry ([.ref t, .int i, .ref a]) (n := 3) (Nat.le_of_ble_eq_true rfl)
  rw [lg_entry_eq]
  generalize (lg_sl ([.ref t, .int i, .ref a]) ++ List.replicate (3 - (lg_sl ([.ref t, .int i, .ref a])).length) Slot.unset).toArray = ls at hl ⊢
  have hl : lv_has ls 3 [(0, .ref t), (1, .int i), (2, .ref a)] := hl
  refine lv_aload_n hx hb dX5_doCommand_0 rfl (lv_at hl 2 rfl) ?_
  refine lv_ifnonnull (tgt := 6) hx hb dX5_doCommand_1 (by decide) ?_
  refine lv_aload_n hx hb dX5_doCommand_6 rfl (lv_at hl 0 rfl) ?_
  refine lv_iload_n hx hb dX5_doCommand_7 rfl (lv_at hl 1 rfl) ?_
  refine cl_pi (rV (As := [.int i]) (rest := []) ⟨hx, hb, hml, hown, hts⟩ (c_X5_letterAt l G t X i) (cwV 1 hts gX5_doCommand_X5_letterAt rfl rfl rfl (by decide +kernel) ⟨Nat.le_of_ble_eq_true rfl, Nat.le_of_ble_eq_true rfl⟩) (tx_recv hO hQ1) hQ1 hO rfl hl.1 (Nat.le_of_ble_eq_true rfl) dX5_doCommand_8 ⟨Nat.le_of_ble_eq_true rfl, Nat.le_of_ble_eq_true rfl⟩) ?_
  by_cases c_1 : (f_X5_letterAt X i) = 99
  · refine lv_tableIn (off := 114) (tgt := 125) hx hb dX5_doCommand_11 (by rw [c_1]; decide) (by rw [c_1]; decide) (by rw [c_1]; decide +kernel) (by decide) ?_
    refine lv_aload_n hx hb dX5_doCommand_125 rfl (lv_at hl 2 rfl) ?_
    refine lv_aload_n hx hb dX5_doCommand_126 rfl (lv_at hl 0 rfl) ?_
    refine lv_iload_n hx hb dX5_doCommand_127 rfl (lv_at hl 1 rfl) ?_
    refine lv_iconst (v := 1) hx hb dX5_doCommand_128 (by decide) ?_
    refine lv_iadd hx hb dX5_doCommand_129 ?_
    refine cl_pi (rV (As := [.int (i + 1)]) (rest := [.ref a]) ⟨hx, hb, hml, hown, hts⟩ (c_X5_digit l G t X (i + 1)) (cwV 1 hts gX5_doCommand_X5_digit rfl rfl rfl (by decide +kernel) ⟨Nat.le_of_ble_eq_true rfl, Nat.le_of_ble_eq_true rfl⟩) (tx_recv hO hQ1) hQ1 hO rfl hl.1 (Nat.le_of_ble_eq_true rfl) dX5_doCommand_130 ⟨Nat.le_of_ble_eq_true rfl, Nat.le_of_ble_eq_true rfl⟩) ?_
    refine lv_aload_n hx hb dX5_doCommand_133 rfl (lv_at hl 0 rfl) ?_
    refine lv_iload_n hx hb dX5_doCommand_134 rfl (lv_at hl 1 rfl) ?_
    refine lv_iconst (v := 2) hx hb dX5_doCommand_135 (by decide) ?_
    refine lv_iadd hx hb dX5_doCommand_136 ?_
    refine cl_pi (rV (As := [.int (i + 2)]) (rest := [.int (f_X5_digit X (i + 1)), .ref a]) ⟨hx, hb, hml, hown, hts⟩ (c_X5_twoDigits l G t X (i + 2)) (cwV 1 hts gX5_doCommand_X5_twoDigits rfl rfl rfl (by decide +kernel) ⟨Nat.le_of_ble_eq_true rfl, Nat.le_of_ble_eq_true rfl⟩) (tx_recv hO hQ1) hQ1 hO rfl hl.1 (Nat.le_of_ble_eq_true rfl) dX5_doCommand_137 ⟨Nat.le_of_ble_eq_true rfl, Nat.le_of_ble_eq_true rfl⟩) ?_
    refine cl_mi (rVN (As := [.int (f_X5_digit X (i + 1)), .int (f_X5_twoDigits X (i + 2))]) (rest := []) ⟨hx, hb, hml, hown, hts⟩ (c_X4_arrive l G a S (f_X5_digit X (i + 1)) (f_X5_twoDigits X (i + 2))) ⟨va_cnB 2 hts gX5_doCommand_X4_arrive_n62 rfl rfl rfl (hO.2 _ (List.mem_of_getElem? (i := 31) rfl)) (hts (.initialized RX4) (by decide +kernel)) (by decide +kernel) ⟨Nat.le_of_ble_eq_true rfl, Nat.le_of_ble_eq_true rfl⟩, hts (.instanceMethod yX4_arrive) (by decide +kernel), hts (.selects RX4 yX4_arrive yX4_arrive) (by decide +kernel)⟩ (st_recv hO hP) hP hO rfl hl.1 (Nat.le_of_ble_eq_true rfl) dX5_doCommand_140 ⟨Nat.le_of_ble_eq_true rfl, Nat.le_of_ble_eq_true rfl⟩) hS hA (fun H locs hP1 hz hk hS => ?_)
    have hP : Str G a ((h_X4_arrive S (f_X5_digit X (i + 1)) (f_X5_twoDigits X (i + 2))).2) H := hP1
    have hE : h_X5_doCommand X S i = ((h_X4_arrive S (f_X5_digit X (i + 1)) (f_X5_twoDigits X (i + 2))).1, (h_X4_arrive S (f_X5_digit X (i + 1)) (f_X5_twoDigits X (i + 2))).2) := (by rw [h_X5_doCommand, if_pos c_1])
    have hE2 := snd_of hE
    exact W.iret hx hb hr (fun t ht hW => ⟨by rw [fst_of hE], by rw [ht, hE2]; exact hP, hS.F ht⟩) hS.2.2 dX5_doCommand_143
  by_cases c_2 : (f_X5_letterAt X i) = 104
  · refine lv_tableIn (off := 85) (tgt := 96) hx hb dX5_doCommand_11 (by rw [c_2]; decide) (by rw [c_2]; decide) (by rw [c_2]; decide +kernel) (by decide) ?_
    refine lv_aload_n hx hb dX5_doCommand_96 rfl (lv_at hl 2 rfl) ?_
    refine lv_aload_n hx hb dX5_doCommand_97 rfl (lv_at hl 0 rfl) ?_
    refine lv_iload_n hx hb dX5_doCommand_98 rfl (lv_at hl 1 rfl) ?_
    refine lv_iconst (v := 1) hx hb dX5_doCommand_99 (by decide) ?_
    refine lv_iadd hx hb dX5_doCommand_100 ?_
    refine cl_pi (rV (As := [.int (i + 1)]) (rest := [.ref a]) ⟨hx, hb, hml, hown, hts⟩ (c_X5_twoDigits l G t X (i + 1)) (cwV 1 hts gX5_doCommand_X5_twoDigits rfl rfl rfl (by decide +kernel) ⟨Nat.le_of_ble_eq_true rfl, Nat.le_of_ble_eq_true rfl⟩) (tx_recv hO hQ1) hQ1 hO rfl hl.1 (Nat.le_of_ble_eq_true rfl) dX5_doCommand_101 ⟨Nat.le_of_ble_eq_true rfl, Nat.le_of_ble_eq_true rfl⟩) ?_
    refine lv_aload_n hx hb dX5_doCommand_104 rfl (lv_at hl 0 rfl) ?_
    refine lv_iload_n hx hb dX5_doCommand_105 rfl (lv_at hl 1 rfl) ?_
    refine lv_iconst (v := 3) hx hb dX5_doCommand_106 (by decide) ?_
    refine lv_iadd hx hb dX5_doCommand_107 ?_
    refine cl_pi (rV (As := [.int (i + 3)]) (rest := [.int (f_X5_twoDigits X (i + 1)), .ref a]) ⟨hx, hb, hml, hown, hts⟩ (c_X5_letterAt l G t X (i + 3)) (cwV 1 hts gX5_doCommand_X5_letterAt rfl rfl rfl (by decide +kernel) ⟨Nat.le_of_ble_eq_true rfl, Nat.le_of_ble_eq_true rfl⟩) (tx_recv hO hQ1) hQ1 hO rfl hl.1 (Nat.le_of_ble_eq_true rfl) dX5_doCommand_108 ⟨Nat.le_of_ble_eq_true rfl, Nat.le_of_ble_eq_true rfl⟩) ?_
    refine lv_bipush (v := 43) hx hb dX5_doCommand_111 (by decide) ?_
    refine lv_icmp_ne (tgt := 120) hx hb dX5_doCommand_113 (by decide) (fun c_3 => ?_) (fun c_3 => ?_)
    · refine lv_iconst (v := 0) hx hb dX5_doCommand_120 (by decide) ?_
      refine cl_mi (rVN (As := [.int (f_X5_twoDigits X (i + 1)), .int 0]) (rest := []) ⟨hx, hb, hml, hown, hts⟩ (c_X4_putHydrant l G a S (f_X5_twoDigits X (i + 1)) 0) ⟨va_cnB 2 hts gX5_doCommand_X4_putHydrant_n53 rfl rfl rfl (hO.2 _ (List.mem_of_getElem? (i := 27) rfl)) (hts (.initialized RX4) (by decide +kernel)) (by decide +kernel) ⟨Nat.le_of_ble_eq_true rfl, Nat.le_of_ble_eq_true rfl⟩, hts (.instanceMethod yX4_putHydrant) (by decide +kernel), hts (.selects RX4 yX4_putHydrant yX4_putHydrant) (by decide +kernel)⟩ (st_recv hO hP) hP hO rfl hl.1 (Nat.le_of_ble_eq_true rfl) dX5_doCommand_121 ⟨Nat.le_of_ble_eq_true rfl, Nat.le_of_ble_eq_true rfl⟩) hS hA (fun H locs hP1 hz hk hS => ?_)
      have hP : Str G a ((h_X4_putHydrant S (f_X5_twoDigits X (i + 1)) 0).2) H := hP1
      have hE : h_X5_doCommand X S i = ((h_X4_putHydrant S (f_X5_twoDigits X (i + 1)) 0).1, (h_X4_putHydrant S (f_X5_twoDigits X (i + 1)) 0).2) := (by rw [h_X5_doCommand, if_neg c_1, if_pos c_2, if_neg c_3])
      have hE2 := snd_of hE
      exact W.iret hx hb hr (fun t ht hW => ⟨by rw [fst_of hE], by rw [ht, hE2]; exact hP, hS.F ht⟩) hS.2.2 dX5_doCommand_124
    · refine lv_iconst (v := 1) hx hb dX5_doCommand_116 (by decide) ?_
      refine lv_goto (tgt := 121) hx hb dX5_doCommand_117 (by decide) ?_
      refine cl_mi (rVN (As := [.int (f_X5_twoDigits X (i + 1)), .int 1]) (rest := []) ⟨hx, hb, hml, hown, hts⟩ (c_X4_putHydrant l G a S (f_X5_twoDigits X (i + 1)) 1) ⟨va_cnB 2 hts gX5_doCommand_X4_putHydrant_n53 rfl rfl rfl (hO.2 _ (List.mem_of_getElem? (i := 27) rfl)) (hts (.initialized RX4) (by decide +kernel)) (by decide +kernel) ⟨Nat.le_of_ble_eq_true rfl, Nat.le_of_ble_eq_true rfl⟩, hts (.instanceMethod yX4_putHydrant) (by decide +kernel), hts (.selects RX4 yX4_putHydrant yX4_putHydrant) (by decide +kernel)⟩ (st_recv hO hP) hP hO rfl hl.1 (Nat.le_of_ble_eq_true rfl) dX5_doCommand_121 ⟨Nat.le_of_ble_eq_true rfl, Nat.le_of_ble_eq_true rfl⟩) hS hA (fun H locs hP1 hz hk hS => ?_)
      have hP : Str G a ((h_X4_putHydrant S (f_X5_twoDigits X (i + 1)) 1).2) H := hP1
      have hE : h_X5_doCommand X S i = ((h_X4_putHydrant S (f_X5_twoDigits X (i + 1)) 1).1, (h_X4_putHydrant S (f_X5_twoDigits X (i + 1)) 1).2) := (by rw [h_X5_doCommand, if_neg c_1, if_pos c_2, if_pos c_3])
      have hE2 := snd_of hE
      exact W.iret hx hb hr (fun t ht hW => ⟨by rw [fst_of hE], by rw [ht, hE2]; exact hP, hS.F ht⟩) hS.2.2 dX5_doCommand_124
  by_cases c_4 : (f_X5_letterAt X i) = 108
  · refine lv_tableIn (off := 133) (tgt := 144) hx hb dX5_doCommand_11 (by rw [c_4]; decide) (by rw [c_4]; decide) (by rw [c_4]; decide +kernel) (by decide) ?_
    refine lv_aload_n hx hb dX5_doCommand_144 rfl (lv_at hl 2 rfl) ?_
    refine lv_aload_n hx hb dX5_doCommand_145 rfl (lv_at hl 0 rfl) ?_
    refine lv_iload_n hx hb dX5_doCommand_146 rfl (lv_at hl 1 rfl) ?_
    refine lv_iconst (v := 1) hx hb dX5_doCommand_147 (by decide) ?_
    refine lv_iadd hx hb dX5_doCommand_148 ?_
    refine cl_pi (rV (As := [.int (i + 1)]) (rest := [.ref a]) ⟨hx, hb, hml, hown, hts⟩ (c_X5_twoDigits l G t X (i + 1)) (cwV 1 hts gX5_doCommand_X5_twoDigits rfl rfl rfl (by decide +kernel) ⟨Nat.le_of_ble_eq_true rfl, Nat.le_of_ble_eq_true rfl⟩) (tx_recv hO hQ1) hQ1 hO rfl hl.1 (Nat.le_of_ble_eq_true rfl) dX5_doCommand_149 ⟨Nat.le_of_ble_eq_true rfl, Nat.le_of_ble_eq_true rfl⟩) ?_
    refine lv_iconst (v := 2) hx hb dX5_doCommand_152 (by decide) ?_
    refine cl_mi (rVN (As := [.int (f_X5_twoDigits X (i + 1)), .int 2]) (rest := []) ⟨hx, hb, hml, hown, hts⟩ (c_X4_depart l G a S (f_X5_twoDigits X (i + 1)) 2) ⟨va_cnB 2 hts gX5_doCommand_X4_depart_n65 rfl rfl rfl (hO.2 _ (List.mem_of_getElem? (i := 35) rfl)) (hts (.initialized RX4) (by decide +kernel)) (by decide +kernel) ⟨Nat.le_of_ble_eq_true rfl, Nat.le_of_ble_eq_true rfl⟩, hts (.instanceMethod yX4_depart) (by decide +kernel), hts (.selects RX4 yX4_depart yX4_depart) (by decide +kernel)⟩ (st_recv hO hP) hP hO rfl hl.1 (Nat.le_of_ble_eq_true rfl) dX5_doCommand_153 ⟨Nat.le_of_ble_eq_true rfl, Nat.le_of_ble_eq_true rfl⟩) hS hA (fun H locs hP1 hz hk hS => ?_)
    have hP : Str G a ((h_X4_depart S (f_X5_twoDigits X (i + 1)) 2).2) H := hP1
    have hE : h_X5_doCommand X S i = ((h_X4_depart S (f_X5_twoDigits X (i + 1)) 2).1, (h_X4_depart S (f_X5_twoDigits X (i + 1)) 2).2) := (by rw [h_X5_doCommand, if_neg c_1, if_neg c_2, if_pos c_4])
    have hE2 := snd_of hE
    exact W.iret hx hb hr (fun t ht hW => ⟨by rw [fst_of hE], by rw [ht, hE2]; exact hP, hS.F ht⟩) hS.2.2 dX5_doCommand_156
  by_cases c_5 : (f_X5_letterAt X i) = 109
  · refine lv_tableIn (off := 159) (tgt := 170) hx hb dX5_doCommand_11 (by rw [c_5]; decide) (by rw [c_5]; decide) (by rw [c_5]; decide +kernel) (by decide) ?_
    refine lv_aload_n hx hb dX5_doCommand_170 rfl (lv_at hl 2 rfl) ?_
    refine lv_aload_n hx hb dX5_doCommand_171 rfl (lv_at hl 0 rfl) ?_
    refine lv_iload_n hx hb dX5_doCommand_172 rfl (lv_at hl 1 rfl) ?_
    refine lv_iconst (v := 1) hx hb dX5_doCommand_173 (by decide) ?_
    refine lv_iadd hx hb dX5_doCommand_174 ?_
    refine cl_pi (rV (As := [.int (i + 1)]) (rest := [.ref a]) ⟨hx, hb, hml, hown, hts⟩ (c_X5_twoDigits l G t X (i + 1)) (cwV 1 hts gX5_doCommand_X5_twoDigits rfl rfl rfl (by decide +kernel) ⟨Nat.le_of_ble_eq_true rfl, Nat.le_of_ble_eq_true rfl⟩) (tx_recv hO hQ1) hQ1 hO rfl hl.1 (Nat.le_of_ble_eq_true rfl) dX5_doCommand_175 ⟨Nat.le_of_ble_eq_true rfl, Nat.le_of_ble_eq_true rfl⟩) ?_
    refine lv_aload_n hx hb dX5_doCommand_178 rfl (lv_at hl 0 rfl) ?_
    refine lv_iload_n hx hb dX5_doCommand_179 rfl (lv_at hl 1 rfl) ?_
    refine lv_iconst (v := 3) hx hb dX5_doCommand_180 (by decide) ?_
    refine lv_iadd hx hb dX5_doCommand_181 ?_
    refine cl_pi (rV (As := [.int (i + 3)]) (rest := [.int (f_X5_twoDigits X (i + 1)), .ref a]) ⟨hx, hb, hml, hown, hts⟩ (c_X5_twoDigits l G t X (i + 3)) (cwV 1 hts gX5_doCommand_X5_twoDigits rfl rfl rfl (by decide +kernel) ⟨Nat.le_of_ble_eq_true rfl, Nat.le_of_ble_eq_true rfl⟩) (tx_recv hO hQ1) hQ1 hO rfl hl.1 (Nat.le_of_ble_eq_true rfl) dX5_doCommand_182 ⟨Nat.le_of_ble_eq_true rfl, Nat.le_of_ble_eq_true rfl⟩) ?_
    refine cl_mi (rVN (As := [.int (f_X5_twoDigits X (i + 1)), .int (f_X5_twoDigits X (i + 3))]) (rest := []) ⟨hx, hb, hml, hown, hts⟩ (c_X4_shift l G a S (f_X5_twoDigits X (i + 1)) (f_X5_twoDigits X (i + 3))) ⟨va_cnB 2 hts gX5_doCommand_X4_shift_n68 rfl rfl rfl (hO.2 _ (List.mem_of_getElem? (i := 36) rfl)) (hts (.initialized RX4) (by decide +kernel)) (by decide +kernel) ⟨Nat.le_of_ble_eq_true rfl, Nat.le_of_ble_eq_true rfl⟩, hts (.instanceMethod yX4_shift) (by decide +kernel), hts (.selects RX4 yX4_shift yX4_shift) (by decide +kernel)⟩ (st_recv hO hP) hP hO rfl hl.1 (Nat.le_of_ble_eq_true rfl) dX5_doCommand_185 ⟨Nat.le_of_ble_eq_true rfl, Nat.le_of_ble_eq_true rfl⟩) hS hA (fun H locs hP1 hz hk hS => ?_)
    have hP : Str G a ((h_X4_shift S (f_X5_twoDigits X (i + 1)) (f_X5_twoDigits X (i + 3))).2) H := hP1
    have hE : h_X5_doCommand X S i = ((h_X4_shift S (f_X5_twoDigits X (i + 1)) (f_X5_twoDigits X (i + 3))).1, (h_X4_shift S (f_X5_twoDigits X (i + 1)) (f_X5_twoDigits X (i + 3))).2) := (by rw [h_X5_doCommand, if_neg c_1, if_neg c_2, if_neg c_4, if_pos c_5])
    have hE2 := snd_of hE
    exact W.iret hx hb hr (fun t ht hW => ⟨by rw [fst_of hE], by rw [ht, hE2]; exact hP, hS.F ht⟩) hS.2.2 dX5_doCommand_188
  by_cases c_6 : (f_X5_letterAt X i) = 112
  · refine lv_tableIn (off := 191) (tgt := 202) hx hb dX5_doCommand_11 (by rw [c_6]; decide) (by rw [c_6]; decide) (by rw [c_6]; decide +kernel) (by decide) ?_
    refine lv_aload_n hx hb dX5_doCommand_202 rfl (lv_at hl 2 rfl) ?_
    refine lv_aload_n hx hb dX5_doCommand_203 rfl (lv_at hl 0 rfl) ?_
    refine lv_iload_n hx hb dX5_doCommand_204 rfl (lv_at hl 1 rfl) ?_
    refine lv_iconst (v := 1) hx hb dX5_doCommand_205 (by decide) ?_
    refine lv_iadd hx hb dX5_doCommand_206 ?_
    refine cl_pi (rV (As := [.int (i + 1)]) (rest := [.ref a]) ⟨hx, hb, hml, hown, hts⟩ (c_X5_twoDigits l G t X (i + 1)) (cwV 1 hts gX5_doCommand_X5_twoDigits rfl rfl rfl (by decide +kernel) ⟨Nat.le_of_ble_eq_true rfl, Nat.le_of_ble_eq_true rfl⟩) (tx_recv hO hQ1) hQ1 hO rfl hl.1 (Nat.le_of_ble_eq_true rfl) dX5_doCommand_207 ⟨Nat.le_of_ble_eq_true rfl, Nat.le_of_ble_eq_true rfl⟩) ?_
    refine cl_mi (rVN (As := [.int (f_X5_twoDigits X (i + 1))]) (rest := []) ⟨hx, hb, hml, hown, hts⟩ (c_X4_passMinutes l G a S (f_X5_twoDigits X (i + 1))) ⟨va_cnB 1 hts gX5_doCommand_X4_passMinutes_n74 rfl rfl rfl (hO.2 _ (List.mem_of_getElem? (i := 39) rfl)) (hts (.initialized RX4) (by decide +kernel)) (by decide +kernel) ⟨Nat.le_of_ble_eq_true rfl, Nat.le_of_ble_eq_true rfl⟩, hts (.instanceMethod yX4_passMinutes) (by decide +kernel), hts (.selects RX4 yX4_passMinutes yX4_passMinutes) (by decide +kernel)⟩ (st_recv hO hP) hP hO rfl hl.1 (Nat.le_of_ble_eq_true rfl) dX5_doCommand_210 ⟨Nat.le_of_ble_eq_true rfl, Nat.le_of_ble_eq_true rfl⟩) hS hA (fun H locs hP1 hz hk hS => ?_)
    have hP : Str G a ((h_X4_passMinutes S (f_X5_twoDigits X (i + 1))).2) H := hP1
    have hE : h_X5_doCommand X S i = ((h_X4_passMinutes S (f_X5_twoDigits X (i + 1))).1, (h_X4_passMinutes S (f_X5_twoDigits X (i + 1))).2) := (by rw [h_X5_doCommand, if_neg c_1, if_neg c_2, if_neg c_4, if_neg c_5, if_pos c_6])
    have hE2 := snd_of hE
    exact W.iret hx hb hr (fun t ht hW => ⟨by rw [fst_of hE], by rw [ht, hE2]; exact hP, hS.F ht⟩) hS.2.2 dX5_doCommand_213
  by_cases c_7 : (f_X5_letterAt X i) = 114
  · refine lv_tableIn (off := 178) (tgt := 189) hx hb dX5_doCommand_11 (by rw [c_7]; decide) (by rw [c_7]; decide) (by rw [c_7]; decide +kernel) (by decide) ?_
    refine lv_aload_n hx hb dX5_doCommand_189 rfl (lv_at hl 2 rfl) ?_
    refine lv_iconst (v := 0) hx hb dX5_doCommand_190 (by decide) ?_
    refine lv_aload_n hx hb dX5_doCommand_191 rfl (lv_at hl 0 rfl) ?_
    refine lv_iload_n hx hb dX5_doCommand_192 rfl (lv_at hl 1 rfl) ?_
    refine lv_iconst (v := 1) hx hb dX5_doCommand_193 (by decide) ?_
    refine lv_iadd hx hb dX5_doCommand_194 ?_
    refine cl_pi (rV (As := [.int (i + 1)]) (rest := [.int 0, .ref a]) ⟨hx, hb, hml, hown, hts⟩ (c_X5_digit l G t X (i + 1)) (cwV 1 hts gX5_doCommand_X5_digit rfl rfl rfl (by decide +kernel) ⟨Nat.le_of_ble_eq_true rfl, Nat.le_of_ble_eq_true rfl⟩) (tx_recv hO hQ1) hQ1 hO rfl hl.1 (Nat.le_of_ble_eq_true rfl) dX5_doCommand_195 ⟨Nat.le_of_ble_eq_true rfl, Nat.le_of_ble_eq_true rfl⟩) ?_
    refine cl_mi (rVN (As := [.int 0, .int (f_X5_digit X (i + 1))]) (rest := []) ⟨hx, hb, hml, hown, hts⟩ (c_X4_changeSetting l G a S 0 (f_X5_digit X (i + 1))) ⟨va_cnB 2 hts gX5_doCommand_X4_changeSetting_n71 rfl rfl rfl (hO.2 _ (List.mem_of_getElem? (i := 37) rfl)) (hts (.initialized RX4) (by decide +kernel)) (by decide +kernel) ⟨Nat.le_of_ble_eq_true rfl, Nat.le_of_ble_eq_true rfl⟩, hts (.instanceMethod yX4_changeSetting) (by decide +kernel), hts (.selects RX4 yX4_changeSetting yX4_changeSetting) (by decide +kernel)⟩ (st_recv hO hP) hP hO rfl hl.1 (Nat.le_of_ble_eq_true rfl) dX5_doCommand_198 ⟨Nat.le_of_ble_eq_true rfl, Nat.le_of_ble_eq_true rfl⟩) hS hA (fun H locs hP1 hz hk hS => ?_)
    have hP : Str G a ((h_X4_changeSetting S 0 (f_X5_digit X (i + 1))).2) H := hP1
    have hE : h_X5_doCommand X S i = ((h_X4_changeSetting S 0 (f_X5_digit X (i + 1))).1, (h_X4_changeSetting S 0 (f_X5_digit X (i + 1))).2) := (by rw [h_X5_doCommand, if_neg c_1, if_neg c_2, if_neg c_4, if_neg c_5, if_neg c_6, if_pos c_7])
    have hE2 := snd_of hE
    exact W.iret hx hb hr (fun t ht hW => ⟨by rw [fst_of hE], by rw [ht, hE2]; exact hP, hS.F ht⟩) hS.2.2 dX5_doCommand_201
  by_cases c_8 : (f_X5_letterAt X i) = 116
  · refine lv_tableIn (off := 146) (tgt := 157) hx hb dX5_doCommand_11 (by rw [c_8]; decide) (by rw [c_8]; decide) (by rw [c_8]; decide +kernel) (by decide) ?_
    refine lv_aload_n hx hb dX5_doCommand_157 rfl (lv_at hl 2 rfl) ?_
    refine lv_aload_n hx hb dX5_doCommand_158 rfl (lv_at hl 0 rfl) ?_
    refine lv_iload_n hx hb dX5_doCommand_159 rfl (lv_at hl 1 rfl) ?_
    refine lv_iconst (v := 1) hx hb dX5_doCommand_160 (by decide) ?_
    refine lv_iadd hx hb dX5_doCommand_161 ?_
    refine cl_pi (rV (As := [.int (i + 1)]) (rest := [.ref a]) ⟨hx, hb, hml, hown, hts⟩ (c_X5_twoDigits l G t X (i + 1)) (cwV 1 hts gX5_doCommand_X5_twoDigits rfl rfl rfl (by decide +kernel) ⟨Nat.le_of_ble_eq_true rfl, Nat.le_of_ble_eq_true rfl⟩) (tx_recv hO hQ1) hQ1 hO rfl hl.1 (Nat.le_of_ble_eq_true rfl) dX5_doCommand_162 ⟨Nat.le_of_ble_eq_true rfl, Nat.le_of_ble_eq_true rfl⟩) ?_
    refine lv_iconst (v := 4) hx hb dX5_doCommand_165 (by decide) ?_
    refine cl_mi (rVN (As := [.int (f_X5_twoDigits X (i + 1)), .int 4]) (rest := []) ⟨hx, hb, hml, hown, hts⟩ (c_X4_depart l G a S (f_X5_twoDigits X (i + 1)) 4) ⟨va_cnB 2 hts gX5_doCommand_X4_depart_n65 rfl rfl rfl (hO.2 _ (List.mem_of_getElem? (i := 35) rfl)) (hts (.initialized RX4) (by decide +kernel)) (by decide +kernel) ⟨Nat.le_of_ble_eq_true rfl, Nat.le_of_ble_eq_true rfl⟩, hts (.instanceMethod yX4_depart) (by decide +kernel), hts (.selects RX4 yX4_depart yX4_depart) (by decide +kernel)⟩ (st_recv hO hP) hP hO rfl hl.1 (Nat.le_of_ble_eq_true rfl) dX5_doCommand_166 ⟨Nat.le_of_ble_eq_true rfl, Nat.le_of_ble_eq_true rfl⟩) hS hA (fun H locs hP1 hz hk hS => ?_)
    have hP : Str G a ((h_X4_depart S (f_X5_twoDigits X (i + 1)) 4).2) H := hP1
    have hE : h_X5_doCommand X S i = ((h_X4_depart S (f_X5_twoDigits X (i + 1)) 4).1, (h_X4_depart S (f_X5_twoDigits X (i + 1)) 4).2) := (by rw [h_X5_doCommand, if_neg c_1, if_neg c_2, if_neg c_4, if_neg c_5, if_neg c_6, if_neg c_7, if_pos c_8])
    have hE2 := snd_of hE
    exact W.iret hx hb hr (fun t ht hW => ⟨by rw [fst_of hE], by rw [ht, hE2]; exact hP, hS.F ht⟩) hS.2.2 dX5_doCommand_169
  refine lv_tableD (tgt := 214) hx hb dX5_doCommand_11 (by intro i h1 h2 h3; rcases (show i = 99 ∨ i = 100 ∨ i = 101 ∨ i = 102 ∨ i = 103 ∨ i = 104 ∨ i = 105 ∨ i = 106 ∨ i = 107 ∨ i = 108 ∨ i = 109 ∨ i = 110 ∨ i = 111 ∨ i = 112 ∨ i = 113 ∨ i = 114 ∨ i = 115 ∨ i = 116 by omega) with rfl | rfl | rfl | rfl | rfl | rfl | rfl | rfl | rfl | rfl | rfl | rfl | rfl | rfl | rfl | rfl | rfl | rfl; all_goals first | decide +kernel | (clear h1 h2; first | exact absurd (Int32.toInt_inj.mp (h3.symm.trans (show (99 : Int) = (99 : Int32).toInt by decide))) c_1 | exact absurd (Int32.toInt_inj.mp (h3.symm.trans (show (104 : Int) = (104 : Int32).toInt by decide))) c_2 | exact absurd (Int32.toInt_inj.mp (h3.symm.trans (show (108 : Int) = (108 : Int32).toInt by decide))) c_4 | exact absurd (Int32.toInt_inj.mp (h3.symm.trans (show (109 : Int) = (109 : Int32).toInt by decide))) c_5 | exact absurd (Int32.toInt_inj.mp (h3.symm.trans (show (112 : Int) = (112 : Int32).toInt by decide))) c_6 | exact absurd (Int32.toInt_inj.mp (h3.symm.trans (show (114 : Int) = (114 : Int32).toInt by decide))) c_7 | exact absurd (Int32.toInt_inj.mp (h3.symm.trans (show (116 : Int) = (116 : Int32).toInt by decide))) c_8)) (by decide) ?_
  refine lv_iconst (v := -1) hx hb dX5_doCommand_214 (by decide) ?_
  have hE : h_X5_doCommand X S i = ((-1), S) := (by rw [h_X5_doCommand, if_neg c_1, if_neg c_2, if_neg c_4, if_neg c_5, if_neg c_6, if_neg c_7, if_neg c_8])
  have hE2 := snd_of hE
  exact W.iret hx hb hr (fun t ht hW => ⟨by rw [fst_of hE], by rw [ht, hE2]; exact hP, hS.F ht⟩) hS.2.2 dX5_doCommand_215
