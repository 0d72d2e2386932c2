set_option maxHeartbeats 8000000 in
set_option maxRecDepth 100000 in
theorem c_L_alike (l : Launch) (G : GG) (a b : Nat) (hd : a + 170 ≤ b) (X Y : Cx) (M : Mo) (n : Nat) (hst : l.stackTraces = false) (RX : RelX X M) (RY : RelX Y M) (hn : n < 2 ^ 31) : Met l yL_alike wsL_alike ({ frames := 12, cells := 644, slots := 3864, locals := 210 }) (PcN G (fun q => blk a (a + 170) q ∨ blk b (b + 170) q) [.ref a, .ref b, .int (nI n)] (fun H => Cb G a X H ∧ Cb G b Y H)) (QM (some (.int 1)) (fun H => ∃ T T', Cb G a (yR X T) H ∧ Cb G b (yR Y T') H) (fun q => blk a (a + 170) q ∨ blk b (b + 170) q)) 644 3864 (fun q => blk a (a + 170) q ∨ blk b (b + 170) q) := by
  refine metN (cc := cL_alike) (maxL := 5) (ret := (some .boolean)) (by decide) rfl ?_
  intro p e s m below meth cd hx hb hr hml hown hts hlocks hP hO hTh hN
  obtain ⟨hP, hQ⟩ := hP
  obtain ⟨T1, eT1⟩ := al_sim (nI n).toInt64 (nI (1 + n % 30)) RX
  obtain ⟨T2, eT2⟩ := al_sim (nI n).toInt64 (nI (1 + n % 30)) RY
  obtain ⟨T3, eT3⟩ := al_jam (nI (2 + n % 7)) (nI n).toInt64 (RX.yR T1)
  obtain ⟨T4, eT4⟩ := al_jam (nI (2 + n % 7)) (nI n).toInt64 (RY.yR T2)
  have hS : va_S (fun q => blk a (a + 170) q ∨ blk b (b + 170) q) s.heap s.heap [] := va_S.rf
  have hl := lv_entry ([.ref a, .ref b, .int (nI n)]) (n := 5) (Nat.le_of_ble_eq_true rfl)
  rw [lg_entry_eq]
  generalize (lg_sl ([.ref a, .ref b, .int (nI n)]) ++ List.replicate (5 - (lg_sl ([.ref a, .ref b, .int (nI n)])).length) Slot.unset).toArray = ls at hl ⊢
  have hl : lv_has ls 5 [(0, .ref a), (1, .ref b), (2, .int (nI n))] := hl
  have cut63 : ∀ (n63 : Nat) (k : Nat), 80 < k + n63 → k ≤ 80 → ∀ (H : Heap) (locs : List Loc) (ls : Array Slot), Cb G a (yR (yR X T1) T3) H → Cb G b (yR (yR Y T2) T4) H → va_S (fun q => blk a (a + 170) q ∨ blk b (b + 170) q) s.heap H locs → lv_has ls 5 [(0, .ref a), (1, .ref b), (2, .int (nI n)), (3, .int 1), (4, .int (nI k))] → W p l e (headSpec wsL_alike ({ frames := 12, cells := 644, slots := 3864, locals := 210 } : Room)).room s m ([.ref a, .ref b, .int (nI n)] : List Value).toArray below meth cd H locs (4 + 8 * k) (24 + 48 * k) (MQ below (QM (some (.int 1)) (fun H => ∃ T T', Cb G a (yR X T) H ∧ Cb G b (yR Y T') H) (fun q => blk a (a + 170) q ∨ blk b (b + 170) q)) ([.ref a, .ref b, .int (nI n)] : List Value).toArray s 644 3864 (fun q => blk a (a + 170) q ∨ blk b (b + 170) q)) (F0 m 63 ls []) := by
    intro n63
    induction n63 with
    | zero =>
      intro k hn63 hk
      omega
    | succ n63 ih63 =>
      intro k hn63 hk H locs ls hP hQ hS hl
      refine lv_iload hx hb dL_alike_63 (lv_at hl 4 rfl) ?_
      refine lv_bipush (v := 80) hx hb dL_alike_65 (by decide) ?_
      refine lv_icmp_ge (tgt := 185) hx hb dL_alike_67 (by decide) (fun c1 => ?_) (fun c1 => ?_)
      · have c1f : 80 ≤ k := (nI_leI (a := 80) (b := k) (by omega) (by omega)).mp c1
        refine lv_iload_n hx hb dL_alike_185 rfl (lv_at hl 3 rfl) ?_
        exact W.widen (k := 644) (n := 3864) (by show 4 + 8 * k ≤ 644; omega) (by show 24 + 48 * k ≤ 3864; omega) (W.zret (ty := .boolean) hx hb hr rfl (fun t ht hW => ⟨rfl, by rw [ht]; exact ⟨T3, T4, hP, hQ⟩, hS.F ht⟩) hS.2.2 dL_alike_186)
      · have c1f : ¬ 80 ≤ k := fun z => c1 ((nI_leI (a := 80) (b := k) (by omega) (by omega)).mpr z)
        refine lv_iload_n hx hb dL_alike_70 rfl (lv_at hl 3 rfl) ?_
        refine lv_if_eq (tgt := 185) hx hb dL_alike_71 (by decide) (fun c2 => absurd c2 (by decide)) (fun _ => ?_)
        refine lv_aload_n hx hb dL_alike_74 rfl (lv_at hl 0 rfl) ?_
        refine lv_iconst (v := 4) hx hb dL_alike_75 (by decide) ?_
        refine lv_iload hx hb dL_alike_76 (lv_at hl 4 rfl) ?_
        refine lv_iconst (v := 0) hx hb dL_alike_78 (by decide) ?_
        refine lv_iconst (v := 0) hx hb dL_alike_79 (by decide) ?_
        have hq3 := (al_at (nI k) ((RX.yR T1).yR T3))
        refine cl_o2 (rSP (A := blk a (a + 170)) (As := [.ref a, .int 4, .int (nI k), .int 0, .int 0]) (rest := []) ⟨hx, hb, hml, hown, hts⟩ (c_call_4 l G a (yR (yR X T1) T3) (nI k) 0 0 _ _ hst hq3) (va_cwS 5 hts gL_alike_L_call rfl rfl rfl (by decide +kernel) ⟨(Nat.le_of_ble_eq_true rfl), (Nat.le_of_ble_eq_true rfl)⟩) hP hO (thr_at hTh hS (fun q h => Or.inl h)) hN rfl hl.1 (Nat.le_of_ble_eq_true rfl) dL_alike_80 ⟨(by show 4 + 8 * k + 1 ≤ 644; omega), (by show 24 + 48 * k + 6 ≤ 3864; omega)⟩) hS (fun q h => Or.inl h) hQ (Or.inl hd) (fun H locs hP hQ hS => ?_)
        refine lv_aload_n hx hb dL_alike_83 rfl (lv_at hl 1 rfl) ?_
        refine lv_iconst (v := 4) hx hb dL_alike_84 (by decide) ?_
        refine lv_iload hx hb dL_alike_85 (lv_at hl 4 rfl) ?_
        refine lv_iconst (v := 0) hx hb dL_alike_87 (by decide) ?_
        refine lv_iconst (v := 0) hx hb dL_alike_88 (by decide) ?_
        have hq4 := (al_at (nI k) ((RY.yR T2).yR T4))
        refine cl_o2 (rSP (A := blk b (b + 170)) (As := [.ref b, .int 4, .int (nI k), .int 0, .int 0]) (rest := [.int (rvE kIOO kIOO (h_X7_at M (nI k)))]) ⟨hx, hb, hml, hown, hts⟩ (c_call_4 l G b (yR (yR Y T2) T4) (nI k) 0 0 _ _ hst hq4) (va_cwS 5 hts gL_alike_L_call rfl rfl rfl (by decide +kernel) ⟨(Nat.le_of_ble_eq_true rfl), (Nat.le_of_ble_eq_true rfl)⟩) hQ hO (thr_at hTh hS (fun q h => Or.inr h)) hN rfl hl.1 (Nat.le_of_ble_eq_true rfl) dL_alike_89 ⟨(by show 4 + 8 * k + 1 + 1 ≤ 644; omega), (by show 24 + 48 * k + 6 + 6 ≤ 3864; omega)⟩) hS (fun q h => Or.inr h) hP (Or.inr hd) (fun H locs hQ hP hS => ?_)
        refine lv_icmp_ne (tgt := 177) hx hb dL_alike_92 (by decide) (fun c5 => absurd rfl c5) (fun _ => ?_)
        refine lv_iload hx hb dL_alike_95 (lv_at hl 4 rfl) ?_
        refine lv_bipush (v := 40) hx hb dL_alike_97 (by decide) ?_
        refine lv_icmp_gt (tgt := 173) hx hb dL_alike_99 (by decide) (fun c6 => ?_) (fun c6 => ?_)
        · have c6f : 40 < k := (nI_ltI (a := 40) (b := k) (by omega) (by omega)).mp c6
          refine lv_iconst (v := 1) hx hb dL_alike_173 (by decide) ?_
          refine lv_goto (tgt := 178) hx hb dL_alike_174 (by decide) ?_
          refine lv_istore_n (lv' := [(3, .int 1), (0, .ref a), (1, .ref b), (2, .int (nI n)), (4, .int (nI k))]) hx hb dL_alike_178 rfl hl (by decide) rfl (fun ls hl => ?_)
          refine lv_iinc (v := nI (k + 1)) (lv' := [(4, .int (nI (k + 1))), (3, .int 1), (0, .ref a), (1, .ref b), (2, .int (nI n))]) hx hb dL_alike_179 hl (k := 4) rfl (nI_1 _) (by decide) rfl (fun ls hl => ?_)
          refine lv_goto (tgt := 63) hx hb dL_alike_182 (by decide) ?_
          refine W.widen (k := 4 + 8 * (k + 1)) (n := 24 + 48 * (k + 1)) (by omega) (by omega) ?_
          exact ih63 (k + 1) (by omega) (by omega) _ _ _ hP hQ hS (lv_sub hl [2, 3, 4, 1, 0] rfl)
        · have c6f : ¬ 40 < k := fun z => c6 ((nI_ltI (a := 40) (b := k) (by omega) (by omega)).mpr z)
          refine lv_aload_n hx hb dL_alike_102 rfl (lv_at hl 0 rfl) ?_
          refine lv_iconst (v := 2) hx hb dL_alike_103 (by decide) ?_
          refine lv_iload hx hb dL_alike_104 (lv_at hl 4 rfl) ?_
          refine lv_iconst (v := 0) hx hb dL_alike_106 (by decide) ?_
          refine lv_iconst (v := 0) hx hb dL_alike_107 (by decide) ?_
          have hq7 := (al_about (nI k) ((RX.yR T1).yR T3))
          refine cl_o2 (rSP (A := blk a (a + 170)) (As := [.ref a, .int 2, .int (nI k), .int 0, .int 0]) (rest := []) ⟨hx, hb, hml, hown, hts⟩ (c_call_2 l G a (yR (yR X T1) T3) (nI k) 0 0 _ _ hst hq7) (va_cwS 5 hts gL_alike_L_call rfl rfl rfl (by decide +kernel) ⟨(Nat.le_of_ble_eq_true rfl), (Nat.le_of_ble_eq_true rfl)⟩) hP hO (thr_at hTh hS (fun q h => Or.inl h)) hN rfl hl.1 (Nat.le_of_ble_eq_true rfl) dL_alike_108 ⟨(by show 4 + 8 * k + 1 + 1 + 1 ≤ 644; omega), (by show 24 + 48 * k + 6 + 6 + 6 ≤ 3864; omega)⟩) hS (fun q h => Or.inl h) hQ (Or.inl hd) (fun H locs hP hQ hS => ?_)
          refine lv_aload_n hx hb dL_alike_111 rfl (lv_at hl 1 rfl) ?_
          refine lv_iconst (v := 2) hx hb dL_alike_112 (by decide) ?_
          refine lv_iload hx hb dL_alike_113 (lv_at hl 4 rfl) ?_
          refine lv_iconst (v := 0) hx hb dL_alike_115 (by decide) ?_
          refine lv_iconst (v := 0) hx hb dL_alike_116 (by decide) ?_
          have hq8 := (al_about (nI k) ((RY.yR T2).yR T4))
          refine cl_o2 (rSP (A := blk b (b + 170)) (As := [.ref b, .int 2, .int (nI k), .int 0, .int 0]) (rest := [.int (rvE kIAE kIAE (h_X7_about M (nI k)))]) ⟨hx, hb, hml, hown, hts⟩ (c_call_2 l G b (yR (yR Y T2) T4) (nI k) 0 0 _ _ hst hq8) (va_cwS 5 hts gL_alike_L_call rfl rfl rfl (by decide +kernel) ⟨(Nat.le_of_ble_eq_true rfl), (Nat.le_of_ble_eq_true rfl)⟩) hQ hO (thr_at hTh hS (fun q h => Or.inr h)) hN rfl hl.1 (Nat.le_of_ble_eq_true rfl) dL_alike_117 ⟨(by show 4 + 8 * k + 1 + 1 + 1 + 1 ≤ 644; omega), (by show 24 + 48 * k + 6 + 6 + 6 + 6 ≤ 3864; omega)⟩) hS (fun q h => Or.inr h) hP (Or.inr hd) (fun H locs hQ hP hS => ?_)
          refine lv_icmp_ne (tgt := 177) hx hb dL_alike_120 (by decide) (fun c9 => absurd rfl c9) (fun _ => ?_)
          refine lv_aload_n hx hb dL_alike_123 rfl (lv_at hl 0 rfl) ?_
          refine lv_iconst (v := 3) hx hb dL_alike_124 (by decide) ?_
          refine lv_iload hx hb dL_alike_125 (lv_at hl 4 rfl) ?_
          refine lv_iload_n hx hb dL_alike_127 rfl (lv_at hl 2 rfl) ?_
          refine lv_bipush (v := 7) hx hb dL_alike_128 (by decide) ?_
          refine irem_n (a := n) (b := 7) hx hb ⟨by omega, by decide, by decide⟩ dL_alike_130 ?_
          refine lv_iconst (v := 0) hx hb dL_alike_131 (by decide) ?_
          have hq10 := (al_carOf (nI k) (nI (n % 7)) ((RX.yR T1).yR T3))
          refine cl_o2 (rSP (A := blk a (a + 170)) (As := [.ref a, .int 3, .int (nI k), .int (nI (n % 7)), .int 0]) (rest := []) ⟨hx, hb, hml, hown, hts⟩ (c_call_3 l G a (yR (yR X T1) T3) (nI k) (nI (n % 7)) 0 _ _ hst hq10) (va_cwS 5 hts gL_alike_L_call rfl rfl rfl (by decide +kernel) ⟨(Nat.le_of_ble_eq_true rfl), (Nat.le_of_ble_eq_true rfl)⟩) hP hO (thr_at hTh hS (fun q h => Or.inl h)) hN rfl hl.1 (Nat.le_of_ble_eq_true rfl) dL_alike_132 ⟨(by show 4 + 8 * k + 1 + 1 + 1 + 1 + 1 ≤ 644; omega), (by show 24 + 48 * k + 6 + 6 + 6 + 6 + 6 ≤ 3864; omega)⟩) hS (fun q h => Or.inl h) hQ (Or.inl hd) (fun H locs hP hQ hS => ?_)
          refine lv_aload_n hx hb dL_alike_135 rfl (lv_at hl 1 rfl) ?_
          refine lv_iconst (v := 3) hx hb dL_alike_136 (by decide) ?_
          refine lv_iload hx hb dL_alike_137 (lv_at hl 4 rfl) ?_
          refine lv_iload_n hx hb dL_alike_139 rfl (lv_at hl 2 rfl) ?_
          refine lv_bipush (v := 7) hx hb dL_alike_140 (by decide) ?_
          refine irem_n (a := n) (b := 7) hx hb ⟨by omega, by decide, by decide⟩ dL_alike_142 ?_
          refine lv_iconst (v := 0) hx hb dL_alike_143 (by decide) ?_
          have hq11 := (al_carOf (nI k) (nI (n % 7)) ((RY.yR T2).yR T4))
          refine cl_o2 (rSP (A := blk b (b + 170)) (As := [.ref b, .int 3, .int (nI k), .int (nI (n % 7)), .int 0]) (rest := [.int (rvE kIOO kIAE (h_X7_carOf M (nI k) (nI (n % 7))))]) ⟨hx, hb, hml, hown, hts⟩ (c_call_3 l G b (yR (yR Y T2) T4) (nI k) (nI (n % 7)) 0 _ _ hst hq11) (va_cwS 5 hts gL_alike_L_call rfl rfl rfl (by decide +kernel) ⟨(Nat.le_of_ble_eq_true rfl), (Nat.le_of_ble_eq_true rfl)⟩) hQ hO (thr_at hTh hS (fun q h => Or.inr h)) hN rfl hl.1 (Nat.le_of_ble_eq_true rfl) dL_alike_144 ⟨(by show 4 + 8 * k + 1 + 1 + 1 + 1 + 1 + 1 ≤ 644; omega), (by show 24 + 48 * k + 6 + 6 + 6 + 6 + 6 + 6 ≤ 3864; omega)⟩) hS (fun q h => Or.inr h) hP (Or.inr hd) (fun H locs hQ hP hS => ?_)
          refine lv_icmp_ne (tgt := 177) hx hb dL_alike_147 (by decide) (fun c12 => absurd rfl c12) (fun _ => ?_)
          refine lv_aload_n hx hb dL_alike_150 rfl (lv_at hl 0 rfl) ?_
          refine lv_bipush (v := 15) hx hb dL_alike_151 (by decide) ?_
          refine lv_iload hx hb dL_alike_153 (lv_at hl 4 rfl) ?_
          refine lv_iconst (v := 0) hx hb dL_alike_155 (by decide) ?_
          refine lv_iconst (v := 0) hx hb dL_alike_156 (by decide) ?_
          have hq13 := (al_place (nI k) ((RX.yR T1).yR T3))
          refine cl_o2 (rSP (A := blk a (a + 170)) (As := [.ref a, .int 15, .int (nI k), .int 0, .int 0]) (rest := []) ⟨hx, hb, hml, hown, hts⟩ (c_call_15 l G a (yR (yR X T1) T3) (nI k) 0 0 _ _ hst hq13) (va_cwS 5 hts gL_alike_L_call rfl rfl rfl (by decide +kernel) ⟨(Nat.le_of_ble_eq_true rfl), (Nat.le_of_ble_eq_true rfl)⟩) hP hO (thr_at hTh hS (fun q h => Or.inl h)) hN rfl hl.1 (Nat.le_of_ble_eq_true rfl) dL_alike_157 ⟨(by show 4 + 8 * k + 1 + 1 + 1 + 1 + 1 + 1 + 1 ≤ 644; omega), (by show 24 + 48 * k + 6 + 6 + 6 + 6 + 6 + 6 + 6 ≤ 3864; omega)⟩) hS (fun q h => Or.inl h) hQ (Or.inl hd) (fun H locs hP hQ hS => ?_)
          refine lv_aload_n hx hb dL_alike_160 rfl (lv_at hl 1 rfl) ?_
          refine lv_bipush (v := 15) hx hb dL_alike_161 (by decide) ?_
          refine lv_iload hx hb dL_alike_163 (lv_at hl 4 rfl) ?_
          refine lv_iconst (v := 0) hx hb dL_alike_165 (by decide) ?_
          refine lv_iconst (v := 0) hx hb dL_alike_166 (by decide) ?_
          have hq14 := (al_place (nI k) ((RY.yR T2).yR T4))
          refine cl_o2 (rSP (A := blk b (b + 170)) (As := [.ref b, .int 15, .int (nI k), .int 0, .int 0]) (rest := [.int (rvE kIAE kIAE (h_X7_place M (nI k)))]) ⟨hx, hb, hml, hown, hts⟩ (c_call_15 l G b (yR (yR Y T2) T4) (nI k) 0 0 _ _ hst hq14) (va_cwS 5 hts gL_alike_L_call rfl rfl rfl (by decide +kernel) ⟨(Nat.le_of_ble_eq_true rfl), (Nat.le_of_ble_eq_true rfl)⟩) hQ hO (thr_at hTh hS (fun q h => Or.inr h)) hN rfl hl.1 (Nat.le_of_ble_eq_true rfl) dL_alike_167 ⟨(by show 4 + 8 * k + 1 + 1 + 1 + 1 + 1 + 1 + 1 + 1 ≤ 644; omega), (by show 24 + 48 * k + 6 + 6 + 6 + 6 + 6 + 6 + 6 + 6 ≤ 3864; omega)⟩) hS (fun q h => Or.inr h) hP (Or.inr hd) (fun H locs hQ hP hS => ?_)
          refine lv_icmp_ne (tgt := 177) hx hb dL_alike_170 (by decide) (fun c15 => absurd rfl c15) (fun _ => ?_)
          refine lv_iconst (v := 1) hx hb dL_alike_173 (by decide) ?_
          refine lv_goto (tgt := 178) hx hb dL_alike_174 (by decide) ?_
          refine lv_istore_n (lv' := [(3, .int 1), (0, .ref a), (1, .ref b), (2, .int (nI n)), (4, .int (nI k))]) hx hb dL_alike_178 rfl hl (by decide) rfl (fun ls hl => ?_)
          refine lv_iinc (v := nI (k + 1)) (lv' := [(4, .int (nI (k + 1))), (3, .int 1), (0, .ref a), (1, .ref b), (2, .int (nI n))]) hx hb dL_alike_179 hl (k := 4) rfl (nI_1 _) (by decide) rfl (fun ls hl => ?_)
          refine lv_goto (tgt := 63) hx hb dL_alike_182 (by decide) ?_
          refine W.widen (k := 4 + 8 * (k + 1)) (n := 24 + 48 * (k + 1)) (by omega) (by omega) ?_
          exact ih63 (k + 1) (by omega) (by omega) _ _ _ hP hQ hS (lv_sub hl [2, 3, 4, 1, 0] rfl)
  refine lv_aload_n hx hb dL_alike_0 rfl (lv_at hl 0 rfl) ?_
  refine lv_iload_n hx hb dL_alike_1 rfl (lv_at hl 2 rfl) ?_
  refine lv_i2l (v := (nI n).toInt64) hx hb dL_alike_2 rfl ?_
  refine lv_iconst (v := 1) hx hb dL_alike_3 (by decide) ?_
  refine lv_iload_n hx hb dL_alike_4 rfl (lv_at hl 2 rfl) ?_
  refine lv_bipush (v := 30) hx hb dL_alike_5 (by decide) ?_
  refine irem_n (a := n) (b := 30) hx hb ⟨by omega, by decide, by decide⟩ dL_alike_7 ?_
  refine iadd_n (a := 1) (b := n % 30) hx hb dL_alike_8 ?_
  have hq16 := eT1
  refine cl_w2 (xSW (A := blk a (a + 170)) (As := [.ref a, .long ((nI n).toInt64), .int (nI (1 + (n % 30)))]) (rest := []) ⟨hx, hb, hml, hown, hts⟩ (w_L_doSimulate l G a X ((nI n).toInt64) (nI (1 + (n % 30))) _ _ hst hq16) (vx_cwSW 3 hts gL_alike_L_doSimulate rfl rfl rfl (by decide +kernel) ⟨(Nat.le_of_ble_eq_true rfl), (Nat.le_of_ble_eq_true rfl)⟩) hP hO (thr_at hTh hS (fun q h => Or.inl h)) hN rfl hl.1 (Nat.le_of_ble_eq_true rfl) dL_alike_9 ⟨(Nat.le_of_ble_eq_true rfl), (Nat.le_of_ble_eq_true rfl)⟩) hS (fun q h => Or.inl h) hQ (Or.inl hd) (fun H locs hP hQ hS => ?_)
  refine lv_aload_n hx hb dL_alike_12 rfl (lv_at hl 1 rfl) ?_
  refine lv_iload_n hx hb dL_alike_13 rfl (lv_at hl 2 rfl) ?_
  refine lv_i2l (v := (nI n).toInt64) hx hb dL_alike_14 rfl ?_
  refine lv_iconst (v := 1) hx hb dL_alike_15 (by decide) ?_
  refine lv_iload_n hx hb dL_alike_16 rfl (lv_at hl 2 rfl) ?_
  refine lv_bipush (v := 30) hx hb dL_alike_17 (by decide) ?_
  refine irem_n (a := n) (b := 30) hx hb ⟨by omega, by decide, by decide⟩ dL_alike_19 ?_
  refine iadd_n (a := 1) (b := n % 30) hx hb dL_alike_20 ?_
  have hq17 := eT2
  refine cl_w2 (xSW (A := blk b (b + 170)) (As := [.ref b, .long ((nI n).toInt64), .int (nI (1 + (n % 30)))]) (rest := [.int (rvE kIAE kIAE (h_X7_simulate M ((nI n).toInt64) (nI (1 + (n % 30)))))]) ⟨hx, hb, hml, hown, hts⟩ (w_L_doSimulate l G b Y ((nI n).toInt64) (nI (1 + (n % 30))) _ _ hst hq17) (vx_cwSW 3 hts gL_alike_L_doSimulate rfl rfl rfl (by decide +kernel) ⟨(Nat.le_of_ble_eq_true rfl), (Nat.le_of_ble_eq_true rfl)⟩) hQ hO (thr_at hTh hS (fun q h => Or.inr h)) hN rfl hl.1 (Nat.le_of_ble_eq_true rfl) dL_alike_21 ⟨(Nat.le_of_ble_eq_true rfl), (Nat.le_of_ble_eq_true rfl)⟩) hS (fun q h => Or.inr h) hP (Or.inr hd) (fun H locs hQ hP hS => ?_)
  refine lv_icmp_ne (tgt := 58) hx hb dL_alike_24 (by decide) (fun c18 => absurd rfl c18) (fun _ => ?_)
  refine lv_aload_n hx hb dL_alike_27 rfl (lv_at hl 0 rfl) ?_
  refine lv_iconst (v := 2) hx hb dL_alike_28 (by decide) ?_
  refine lv_iload_n hx hb dL_alike_29 rfl (lv_at hl 2 rfl) ?_
  refine lv_bipush (v := 7) hx hb dL_alike_30 (by decide) ?_
  refine irem_n (a := n) (b := 7) hx hb ⟨by omega, by decide, by decide⟩ dL_alike_32 ?_
  refine iadd_n (a := 2) (b := n % 7) hx hb dL_alike_33 ?_
  refine lv_iload_n hx hb dL_alike_34 rfl (lv_at hl 2 rfl) ?_
  refine lv_i2l (v := (nI n).toInt64) hx hb dL_alike_35 rfl ?_
  have hq19 := eT3
  refine cl_w2 (xSW (A := blk a (a + 170)) (As := [.ref a, .int (nI (2 + (n % 7))), .long ((nI n).toInt64)]) (rest := []) ⟨hx, hb, hml, hown, hts⟩ (w_L_jams l G a (yR X T1) (nI (2 + (n % 7))) ((nI n).toInt64) _ _ hst hq19) (vx_cwSW 3 hts gL_alike_L_jams rfl rfl rfl (by decide +kernel) ⟨(Nat.le_of_ble_eq_true rfl), (Nat.le_of_ble_eq_true rfl)⟩) hP hO (thr_at hTh hS (fun q h => Or.inl h)) hN rfl hl.1 (Nat.le_of_ble_eq_true rfl) dL_alike_36 ⟨(Nat.le_of_ble_eq_true rfl), (Nat.le_of_ble_eq_true rfl)⟩) hS (fun q h => Or.inl h) hQ (Or.inl hd) (fun H locs hP hQ hS => ?_)
  refine lv_aload_n hx hb dL_alike_39 rfl (lv_at hl 1 rfl) ?_
  refine lv_iconst (v := 2) hx hb dL_alike_40 (by decide) ?_
  refine lv_iload_n hx hb dL_alike_41 rfl (lv_at hl 2 rfl) ?_
  refine lv_bipush (v := 7) hx hb dL_alike_42 (by decide) ?_
  refine irem_n (a := n) (b := 7) hx hb ⟨by omega, by decide, by decide⟩ dL_alike_44 ?_
  refine iadd_n (a := 2) (b := n % 7) hx hb dL_alike_45 ?_
  refine lv_iload_n hx hb dL_alike_46 rfl (lv_at hl 2 rfl) ?_
  refine lv_i2l (v := (nI n).toInt64) hx hb dL_alike_47 rfl ?_
  have hq20 := eT4
  refine cl_w2 (xSW (A := blk b (b + 170)) (As := [.ref b, .int (nI (2 + (n % 7))), .long ((nI n).toInt64)]) (rest := [.int (rvE kIAE kIAE (h_X7_jam M (nI (2 + (n % 7))) ((nI n).toInt64)))]) ⟨hx, hb, hml, hown, hts⟩ (w_L_jams l G b (yR Y T2) (nI (2 + (n % 7))) ((nI n).toInt64) _ _ hst hq20) (vx_cwSW 3 hts gL_alike_L_jams rfl rfl rfl (by decide +kernel) ⟨(Nat.le_of_ble_eq_true rfl), (Nat.le_of_ble_eq_true rfl)⟩) hQ hO (thr_at hTh hS (fun q h => Or.inr h)) hN rfl hl.1 (Nat.le_of_ble_eq_true rfl) dL_alike_48 ⟨(Nat.le_of_ble_eq_true rfl), (Nat.le_of_ble_eq_true rfl)⟩) hS (fun q h => Or.inr h) hP (Or.inr hd) (fun H locs hQ hP hS => ?_)
  refine lv_icmp_ne (tgt := 58) hx hb dL_alike_51 (by decide) (fun c21 => absurd rfl c21) (fun _ => ?_)
  refine lv_iconst (v := 1) hx hb dL_alike_54 (by decide) ?_
  refine lv_goto (tgt := 59) hx hb dL_alike_55 (by decide) ?_
  refine lv_istore_n (lv' := [(3, .int 1), (0, .ref a), (1, .ref b), (2, .int (nI n))]) hx hb dL_alike_59 rfl hl (by decide) rfl (fun ls hl => ?_)
  refine lv_iconst (v := 0) hx hb dL_alike_60 (by decide) ?_
  refine lv_istore (lv' := [(4, .int 0), (3, .int 1), (0, .ref a), (1, .ref b), (2, .int (nI n))]) hx hb dL_alike_61 hl (by decide) rfl (fun ls hl => ?_)
  refine W.widen (k := 4 + 8 * 0) (n := 24 + 48 * 0) (Nat.le_of_ble_eq_true rfl) (Nat.le_of_ble_eq_true rfl) ?_
  exact cut63 (80 + 1) 0 (by omega) (by omega) _ _ _ hP hQ hS (lv_sub hl [2, 3, 4, 1, 0] rfl)
