def f_L_thrown (v : Int32) : Int32 :=
  if v = (-9999001) then 1 else
  if v = (-9999002) then 1 else
  if v = (-9999003) then 1 else
  0
set_option maxHeartbeats 4000000 in
set_option maxRecDepth 100000 in
theorem c_L_thrown (l : Launch) (G : GG) (v : Int32) : Met l yL_thrown wsL_thrown ({ frames := 0, cells := 0, slots := 0, locals := 0 }) (PcH G [.int v] (fun _ => True)) (QP (some (.int (f_L_thrown v)))) 0 0 noA := by
  refine metH (cc := cL_thrown) (maxL := 1) (ret := (some .boolean)) (by decide) rfl ?_
  intro p e s m below meth cd hx hb hr hml hown hts hlocks hP hO
  have hS : va_S noA s.heap s.heap [] := va_S.rf
  have hl := lv_entry ([.int v]) (n := 1) (Nat.le_of_ble_eq_true rfl)
  rw [lg_entry_eq]
  generalize (lg_sl ([.int v]) ++ List.replicate (1 - (lg_sl ([.int v])).length) Slot.unset).toArray = ls at hl ⊢
  have hl : lv_has ls 1 [(0, .int v)] := hl
  refine lv_iload_n hx hb dL_thrown_0 rfl (lv_at hl 0 rfl) ?_
  refine lv_ldc (v := -9999001) hx hb hown (hts (.constant RL 15 (-9999001)) (by decide +kernel)) dL_thrown_1 ?_
  refine lv_icmp_eq (tgt := 18) hx hb dL_thrown_3 (by decide) (fun c_1 => ?_) (fun c_1 => ?_)
  · refine lv_iconst (v := 1) hx hb dL_thrown_18 (by decide) ?_
    refine lv_goto (tgt := 23) hx hb dL_thrown_19 (by decide) ?_
    have hE : f_L_thrown v = 1 := (by rw [f_L_thrown, if_pos c_1])
    exact W.zret (ty := .boolean) hx hb hr rfl (fun t ht hW => ⟨by rw [hE], ht⟩) hS.2.2 dL_thrown_23
  · refine lv_iload_n hx hb dL_thrown_6 rfl (lv_at hl 0 rfl) ?_
    refine lv_ldc (v := -9999002) hx hb hown (hts (.constant RL 25 (-9999002)) (by decide +kernel)) dL_thrown_7 ?_
    refine lv_icmp_eq (tgt := 18) hx hb dL_thrown_9 (by decide) (fun c_2 => ?_) (fun c_2 => ?_)
    · refine lv_iconst (v := 1) hx hb dL_thrown_18 (by decide) ?_
      refine lv_goto (tgt := 23) hx hb dL_thrown_19 (by decide) ?_
      have hE : f_L_thrown v = 1 := (by rw [f_L_thrown, if_neg c_1, if_pos c_2])
      exact W.zret (ty := .boolean) hx hb hr rfl (fun t ht hW => ⟨by rw [hE], ht⟩) hS.2.2 dL_thrown_23
    · refine lv_iload_n hx hb dL_thrown_12 rfl (lv_at hl 0 rfl) ?_
      refine lv_ldc (v := -9999003) hx hb hown (hts (.constant RL 18 (-9999003)) (by decide +kernel)) dL_thrown_13 ?_
      refine lv_icmp_ne (tgt := 22) hx hb dL_thrown_15 (by decide) (fun c_3 => ?_) (fun c_3 => ?_)
      · refine lv_iconst (v := 0) hx hb dL_thrown_22 (by decide) ?_
        have hE : f_L_thrown v = 0 := (by rw [f_L_thrown, if_neg c_1, if_neg c_2, if_neg c_3])
        exact W.zret (ty := .boolean) hx hb hr rfl (fun t ht hW => ⟨by rw [hE], ht⟩) hS.2.2 dL_thrown_23
      · refine lv_iconst (v := 1) hx hb dL_thrown_18 (by decide) ?_
        refine lv_goto (tgt := 23) hx hb dL_thrown_19 (by decide) ?_
        have hE : f_L_thrown v = 1 := (by rw [f_L_thrown, if_neg c_1, if_neg c_2, if_pos c_3])
        exact W.zret (ty := .boolean) hx hb hr rfl (fun t ht hW => ⟨by rw [hE], ht⟩) hS.2.2 dL_thrown_23

theorem thrown_n {a : Nat} (ha : a < 2 ^ 31) : f_L_thrown (nI a) = 0 := by
  have h : ∀ k : Int32, k < 0 → ¬ nI a = k := fun k hk z => nI_pos ha (by rw [z]; exact hk)
  rw [f_L_thrown, if_neg (h _ (by decide)), if_neg (h _ (by decide)), if_neg (h _ (by decide))]
theorem le_60 {k : Nat} (h : k ≤ 60) : nI k + (-60) ≤ 0 := by
  rw [Int32.le_iff_toInt_le, Int32.toInt_add, nI_toInt (by omega), show (-60 : Int32).toInt = -60 by decide, show (0 : Int32).toInt = 0 by decide, Int.bmod_eq_of_le (by omega) (by omega)]
  omega
theorem sub_60 {k : Nat} (h : 60 ≤ k) : nI k + (-60) = nI (k - 60) := by
  rw [← pk_sub h, Int32.sub_eq_add_neg]
  rfl
theorem sub_1 {k : Nat} (h : 1 ≤ k) : nI k + (-1) = nI (k - 1) := by
  rw [← pk_sub h, Int32.sub_eq_add_neg]
  rfl
theorem wt_2 {k : Nat} {X : Cx} (h1 : 61 ≤ k) (h2 : k ≤ 100) : wt (wt X 60) (k - 60) = wt X k := by
  have e : wt X k = rm (rm X (h_X4_passMinutes (xN X) (nI 60)).2) (h_X4_passMinutes (h_X4_passMinutes (xN X) (nI 60)).2 (nI (k - 60))).2 := by rw [wt, if_neg (by omega), if_neg (by omega)]
  rw [wt_60 (p := k - 60) (by omega), wt_60 (p := 60) (by omega), e, rm_N]

set_option maxHeartbeats 4000000 in
set_option maxRecDepth 100000 in
theorem c_L_undoes_0 (l : Launch) (G : GG) (a b : Nat) (hd : a + 170 ≤ b) (X Y : Cx) (M : Mo) (k : Nat) (hst : l.stackTraces = false) (RX : RelX X M) (RY : RelX Y M) (hk : k = 0) (hx2 : un2 k ≤ qK (xH X)) (hy2 : un2 k ≤ qK (xH Y)) : Met l yL_undoes wsL_undoes ({ frames := 12, cells := 4, slots := 24, locals := 210 }) (PcN G (fun q => blk a (a + 170) q ∨ blk b (b + 170) q) [.ref a, .ref b, .int (nI k)] (fun H => Cb G a X H ∧ Cb G b Y H)) (QM (some (.int 1)) (fun H => Cb G a (ut X k) H ∧ Cb G b (ut Y k) H) (fun q => blk a (a + 170) q ∨ blk b (b + 170) q)) 4 24 (fun q => blk a (a + 170) q ∨ blk b (b + 170) q) := by
  refine metN (cc := cL_undoes) (maxL := 5) (ret := (some .boolean)) (by decide) rfl ?_
  intro p e s m below meth cd hx hb hr hml hown hts hlocks hP hO hTh hN
  obtain ⟨hP, hQ⟩ := hP
  rw [un2] at hx2 hy2
  have hS : va_S (fun q => blk a (a + 170) q ∨ blk b (b + 170) q) s.heap s.heap [] := va_S.rf
  have hl := lv_entry ([.ref a, .ref b, .int (nI k)]) (n := 5) (Nat.le_of_ble_eq_true rfl)
  rw [lg_entry_eq]
  generalize (lg_sl ([.ref a, .ref b, .int (nI k)]) ++ List.replicate (5 - (lg_sl ([.ref a, .ref b, .int (nI k)])).length) Slot.unset).toArray = ls at hl ⊢
  have hl : lv_has ls 5 [(0, .ref a), (1, .ref b), (2, .int (nI k))] := hl
  refine lv_iconst (v := 1) hx hb dL_undoes_0 (by decide) ?_
  refine lv_istore_n (lv' := [(3, .int 1), (0, .ref a), (1, .ref b), (2, .int (nI k))]) hx hb dL_undoes_1 rfl hl (by decide) rfl (fun ls hl => ?_)
  refine lv_iload_n hx hb dL_undoes_2 rfl (lv_at hl 3 rfl) ?_
  refine lv_istore (lv' := [(4, .int (nI k)), (3, .int 1), (0, .ref a), (1, .ref b), (2, .int (nI k))]) hx hb dL_undoes_3 hl (by decide) rfl (fun ls hl => ?_)
  refine lv_iload hx hb dL_undoes_5 (lv_at hl 0 rfl) ?_
  refine lv_if_le (tgt := 56) hx hb dL_undoes_7 (by decide) (fun _ => ?_) (fun c1 => absurd (nI_le (a := k) (b := 0) (by omega) (by omega)) c1)
  refine lv_iload_n hx hb dL_undoes_56 rfl (lv_at hl 1 rfl) ?_
  exact W.widen (k := 4) (n := 24) (Nat.le_of_ble_eq_true rfl) (Nat.le_of_ble_eq_true rfl) (W.zret (ty := .boolean) hx hb hr rfl (fun t ht hW => ⟨rfl, by rw [ht]; exact (by rw [ut, if_pos hk, ut, if_pos hk]; exact ⟨hP, hQ⟩), hS.F ht⟩) hS.2.2 dL_undoes_57)

set_option maxHeartbeats 4000000 in
set_option maxRecDepth 100000 in
theorem c_L_undoes_1 (l : Launch) (G : GG) (a b : Nat) (hd : a + 170 ≤ b) (X Y : Cx) (M : Mo) (k : Nat) (hst : l.stackTraces = false) (RX : RelX X M) (RY : RelX Y M) (hk : 1 ≤ k ∧ k ≤ 60) (hx2 : un2 k ≤ qK (xH X)) (hy2 : un2 k ≤ qK (xH Y)) : Met l yL_undoes wsL_undoes ({ frames := 12, cells := 4, slots := 24, locals := 210 }) (PcN G (fun q => blk a (a + 170) q ∨ blk b (b + 170) q) [.ref a, .ref b, .int (nI k)] (fun H => Cb G a X H ∧ Cb G b Y H)) (QM (some (.int 1)) (fun H => Cb G a (ut X k) H ∧ Cb G b (ut Y k) H) (fun q => blk a (a + 170) q ∨ blk b (b + 170) q)) 4 24 (fun q => blk a (a + 170) q ∨ blk b (b + 170) q) := by
  refine metN (cc := cL_undoes) (maxL := 5) (ret := (some .boolean)) (by decide) rfl ?_
  intro p e s m below meth cd hx hb hr hml hown hts hlocks hP hO hTh hN
  obtain ⟨hP, hQ⟩ := hP
  rw [un2] at hx2 hy2
  rw [if_neg (by omega), if_pos (by omega)] at hx2 hy2
  have hS : va_S (fun q => blk a (a + 170) q ∨ blk b (b + 170) q) s.heap s.heap [] := va_S.rf
  have hl := lv_entry ([.ref a, .ref b, .int (nI k)]) (n := 5) (Nat.le_of_ble_eq_true rfl)
  rw [lg_entry_eq]
  generalize (lg_sl ([.ref a, .ref b, .int (nI k)]) ++ List.replicate (5 - (lg_sl ([.ref a, .ref b, .int (nI k)])).length) Slot.unset).toArray = ls at hl ⊢
  have hl : lv_has ls 5 [(0, .ref a), (1, .ref b), (2, .int (nI k))] := hl
  refine lv_iconst (v := 1) hx hb dL_undoes_0 (by decide) ?_
  refine lv_istore_n (lv' := [(3, .int 1), (0, .ref a), (1, .ref b), (2, .int (nI k))]) hx hb dL_undoes_1 rfl hl (by decide) rfl (fun ls hl => ?_)
  refine lv_iload_n hx hb dL_undoes_2 rfl (lv_at hl 3 rfl) ?_
  refine lv_istore (lv' := [(4, .int (nI k)), (3, .int 1), (0, .ref a), (1, .ref b), (2, .int (nI k))]) hx hb dL_undoes_3 hl (by decide) rfl (fun ls hl => ?_)
  refine lv_iload hx hb dL_undoes_5 (lv_at hl 0 rfl) ?_
  refine lv_if_le (tgt := 56) hx hb dL_undoes_7 (by decide) (fun c1 => absurd c1 (nI_ge (a := 0) (b := k) (by omega) (by omega))) (fun _ => ?_)
  refine lv_iload_n hx hb dL_undoes_10 rfl (lv_at hl 1 rfl) ?_
  refine lv_if_eq (tgt := 56) hx hb dL_undoes_11 (by decide) (fun c2 => absurd c2 (by decide)) (fun _ => ?_)
  refine lv_aload_n hx hb dL_undoes_14 rfl (lv_at hl 2 rfl) ?_
  refine lv_bipush (v := 13) hx hb dL_undoes_15 (by decide) ?_
  refine lv_iconst (v := 0) hx hb dL_undoes_17 (by decide) ?_
  refine lv_iconst (v := 0) hx hb dL_undoes_18 (by decide) ?_
  refine lv_iconst (v := 0) hx hb dL_undoes_19 (by decide) ?_
  refine cl_o2 (rSP (A := blk a (a + 170)) (As := [.ref a, .int 13, .int 0, .int 0, .int 0]) (rest := []) ⟨hx, hb, hml, hown, hts⟩ (c_call_13 l G a X 0 0 0 (nI (qK (xH X) - 1)) (un X) hst (RX).ho (RX).hk (und_q RX (by omega))) (va_cwS 5 hts gL_undoes_L_call rfl rfl rfl (by decide +kernel) ⟨(Nat.le_of_ble_eq_true rfl), (Nat.le_of_ble_eq_true rfl)⟩) hP hO (thr_at hTh hS (fun q h => Or.inl h)) hN rfl hl.1 (Nat.le_of_ble_eq_true rfl) dL_undoes_20 ⟨(Nat.le_of_ble_eq_true rfl), (Nat.le_of_ble_eq_true rfl)⟩) hS (fun q h => Or.inl h) hQ (Or.inl hd) (fun H locs hP hQ hS => ?_)
  refine cl_pi (rS (As := [.int (nI (qK (xH X) - 1))]) (rest := []) ⟨hx, hb, hml, hown, hts⟩ (c_L_thrown l G (nI (qK (xH X) - 1))) (va_cwS 1 hts gL_undoes_L_thrown rfl rfl rfl (by decide +kernel) ⟨(Nat.le_of_ble_eq_true rfl), (Nat.le_of_ble_eq_true rfl)⟩) trivial hO rfl hl.1 (Nat.le_of_ble_eq_true rfl) dL_undoes_23 ⟨(Nat.le_of_ble_eq_true rfl), (Nat.le_of_ble_eq_true rfl)⟩) ?_
  refine lv_if_ne (tgt := 48) hx hb dL_undoes_26 (by decide) (fun c3 => absurd (thrown_n (a := (qK (xH X) - 1)) (by have := RX.hk; have := RY.hk; (try rw [un_K]); omega)) c3) (fun _ => ?_)
  refine lv_aload_n hx hb dL_undoes_29 rfl (lv_at hl 3 rfl) ?_
  refine lv_bipush (v := 13) hx hb dL_undoes_30 (by decide) ?_
  refine lv_iconst (v := 0) hx hb dL_undoes_32 (by decide) ?_
  refine lv_iconst (v := 0) hx hb dL_undoes_33 (by decide) ?_
  refine lv_iconst (v := 0) hx hb dL_undoes_34 (by decide) ?_
  refine cl_o2 (rSP (A := blk b (b + 170)) (As := [.ref b, .int 13, .int 0, .int 0, .int 0]) (rest := []) ⟨hx, hb, hml, hown, hts⟩ (c_call_13 l G b Y 0 0 0 (nI (qK (xH Y) - 1)) (un Y) hst (RY).ho (RY).hk (und_q RY (by omega))) (va_cwS 5 hts gL_undoes_L_call rfl rfl rfl (by decide +kernel) ⟨(Nat.le_of_ble_eq_true rfl), (Nat.le_of_ble_eq_true rfl)⟩) hQ hO (thr_at hTh hS (fun q h => Or.inr h)) hN rfl hl.1 (Nat.le_of_ble_eq_true rfl) dL_undoes_35 ⟨(Nat.le_of_ble_eq_true rfl), (Nat.le_of_ble_eq_true rfl)⟩) hS (fun q h => Or.inr h) hP (Or.inr hd) (fun H locs hQ hP hS => ?_)
  refine cl_pi (rS (As := [.int (nI (qK (xH Y) - 1))]) (rest := []) ⟨hx, hb, hml, hown, hts⟩ (c_L_thrown l G (nI (qK (xH Y) - 1))) (va_cwS 1 hts gL_undoes_L_thrown rfl rfl rfl (by decide +kernel) ⟨(Nat.le_of_ble_eq_true rfl), (Nat.le_of_ble_eq_true rfl)⟩) trivial hO rfl hl.1 (Nat.le_of_ble_eq_true rfl) dL_undoes_38 ⟨(Nat.le_of_ble_eq_true rfl), (Nat.le_of_ble_eq_true rfl)⟩) ?_
  refine lv_if_ne (tgt := 48) hx hb dL_undoes_41 (by decide) (fun c4 => absurd (thrown_n (a := (qK (xH Y) - 1)) (by have := RX.hk; have := RY.hk; (try rw [un_K]); omega)) c4) (fun _ => ?_)
  refine lv_iconst (v := 1) hx hb dL_undoes_44 (by decide) ?_
  refine lv_goto (tgt := 49) hx hb dL_undoes_45 (by decide) ?_
  refine lv_istore_n (lv' := [(3, .int 1), (4, .int (nI k)), (0, .ref a), (1, .ref b), (2, .int (nI k))]) hx hb dL_undoes_49 rfl hl (by decide) rfl (fun ls hl => ?_)
  refine lv_iinc (v := (nI k) + (-60)) (lv' := [(4, .int ((nI k) + (-60))), (3, .int 1), (0, .ref a), (1, .ref b), (2, .int (nI k))]) hx hb dL_undoes_50 hl (k := 1) rfl rfl (by decide) rfl (fun ls hl => ?_)
  refine lv_goto (tgt := 5) hx hb dL_undoes_53 (by decide) ?_
  refine lv_iload hx hb dL_undoes_5 (lv_at hl 0 rfl) ?_
  refine lv_if_le (tgt := 56) hx hb dL_undoes_7 (by decide) (fun _ => ?_) (fun c5 => absurd (le_60 (by omega)) c5)
  refine lv_iload_n hx hb dL_undoes_56 rfl (lv_at hl 1 rfl) ?_
  exact W.widen (k := 4) (n := 24) (Nat.le_of_ble_eq_true rfl) (Nat.le_of_ble_eq_true rfl) (W.zret (ty := .boolean) hx hb hr rfl (fun t ht hW => ⟨rfl, by rw [ht]; exact (by rw [ut, if_neg (by omega), if_pos (by omega), ut, if_neg (by omega), if_pos (by omega)]; exact ⟨hP, hQ⟩), hS.F ht⟩) hS.2.2 dL_undoes_57)

set_option maxHeartbeats 4000000 in
set_option maxRecDepth 100000 in
theorem c_L_undoes_2 (l : Launch) (G : GG) (a b : Nat) (hd : a + 170 ≤ b) (X Y : Cx) (M : Mo) (k : Nat) (hst : l.stackTraces = false) (RX : RelX X M) (RY : RelX Y M) (hk : 61 ≤ k ∧ k ≤ 100) (hx2 : un2 k ≤ qK (xH X)) (hy2 : un2 k ≤ qK (xH Y)) : Met l yL_undoes wsL_undoes ({ frames := 12, cells := 4, slots := 24, locals := 210 }) (PcN G (fun q => blk a (a + 170) q ∨ blk b (b + 170) q) [.ref a, .ref b, .int (nI k)] (fun H => Cb G a X H ∧ Cb G b Y H)) (QM (some (.int 1)) (fun H => Cb G a (ut X k) H ∧ Cb G b (ut Y k) H) (fun q => blk a (a + 170) q ∨ blk b (b + 170) q)) 4 24 (fun q => blk a (a + 170) q ∨ blk b (b + 170) q) := by
  refine metN (cc := cL_undoes) (maxL := 5) (ret := (some .boolean)) (by decide) rfl ?_
  intro p e s m below meth cd hx hb hr hml hown hts hlocks hP hO hTh hN
  obtain ⟨hP, hQ⟩ := hP
  rw [un2] at hx2 hy2
  rw [if_neg (by omega), if_neg (by omega)] at hx2 hy2
  have hS : va_S (fun q => blk a (a + 170) q ∨ blk b (b + 170) q) s.heap s.heap [] := va_S.rf
  have hl := lv_entry ([.ref a, .ref b, .int (nI k)]) (n := 5) (Nat.le_of_ble_eq_true rfl)
  rw [lg_entry_eq]
  generalize (lg_sl ([.ref a, .ref b, .int (nI k)]) ++ List.replicate (5 - (lg_sl ([.ref a, .ref b, .int (nI k)])).length) Slot.unset).toArray = ls at hl ⊢
  have hl : lv_has ls 5 [(0, .ref a), (1, .ref b), (2, .int (nI k))] := hl
  refine lv_iconst (v := 1) hx hb dL_undoes_0 (by decide) ?_
  refine lv_istore_n (lv' := [(3, .int 1), (0, .ref a), (1, .ref b), (2, .int (nI k))]) hx hb dL_undoes_1 rfl hl (by decide) rfl (fun ls hl => ?_)
  refine lv_iload_n hx hb dL_undoes_2 rfl (lv_at hl 3 rfl) ?_
  refine lv_istore (lv' := [(4, .int (nI k)), (3, .int 1), (0, .ref a), (1, .ref b), (2, .int (nI k))]) hx hb dL_undoes_3 hl (by decide) rfl (fun ls hl => ?_)
  refine lv_iload hx hb dL_undoes_5 (lv_at hl 0 rfl) ?_
  refine lv_if_le (tgt := 56) hx hb dL_undoes_7 (by decide) (fun c1 => absurd c1 (nI_ge (a := 0) (b := k) (by omega) (by omega))) (fun _ => ?_)
  refine lv_iload_n hx hb dL_undoes_10 rfl (lv_at hl 1 rfl) ?_
  refine lv_if_eq (tgt := 56) hx hb dL_undoes_11 (by decide) (fun c2 => absurd c2 (by decide)) (fun _ => ?_)
  refine lv_aload_n hx hb dL_undoes_14 rfl (lv_at hl 2 rfl) ?_
  refine lv_bipush (v := 13) hx hb dL_undoes_15 (by decide) ?_
  refine lv_iconst (v := 0) hx hb dL_undoes_17 (by decide) ?_
  refine lv_iconst (v := 0) hx hb dL_undoes_18 (by decide) ?_
  refine lv_iconst (v := 0) hx hb dL_undoes_19 (by decide) ?_
  refine cl_o2 (rSP (A := blk a (a + 170)) (As := [.ref a, .int 13, .int 0, .int 0, .int 0]) (rest := []) ⟨hx, hb, hml, hown, hts⟩ (c_call_13 l G a X 0 0 0 (nI (qK (xH X) - 1)) (un X) hst (RX).ho (RX).hk (und_q RX (by omega))) (va_cwS 5 hts gL_undoes_L_call rfl rfl rfl (by decide +kernel) ⟨(Nat.le_of_ble_eq_true rfl), (Nat.le_of_ble_eq_true rfl)⟩) hP hO (thr_at hTh hS (fun q h => Or.inl h)) hN rfl hl.1 (Nat.le_of_ble_eq_true rfl) dL_undoes_20 ⟨(Nat.le_of_ble_eq_true rfl), (Nat.le_of_ble_eq_true rfl)⟩) hS (fun q h => Or.inl h) hQ (Or.inl hd) (fun H locs hP hQ hS => ?_)
  refine cl_pi (rS (As := [.int (nI (qK (xH X) - 1))]) (rest := []) ⟨hx, hb, hml, hown, hts⟩ (c_L_thrown l G (nI (qK (xH X) - 1))) (va_cwS 1 hts gL_undoes_L_thrown rfl rfl rfl (by decide +kernel) ⟨(Nat.le_of_ble_eq_true rfl), (Nat.le_of_ble_eq_true rfl)⟩) trivial hO rfl hl.1 (Nat.le_of_ble_eq_true rfl) dL_undoes_23 ⟨(Nat.le_of_ble_eq_true rfl), (Nat.le_of_ble_eq_true rfl)⟩) ?_
  refine lv_if_ne (tgt := 48) hx hb dL_undoes_26 (by decide) (fun c3 => absurd (thrown_n (a := (qK (xH X) - 1)) (by have := RX.hk; have := RY.hk; (try rw [un_K]); omega)) c3) (fun _ => ?_)
  refine lv_aload_n hx hb dL_undoes_29 rfl (lv_at hl 3 rfl) ?_
  refine lv_bipush (v := 13) hx hb dL_undoes_30 (by decide) ?_
  refine lv_iconst (v := 0) hx hb dL_undoes_32 (by decide) ?_
  refine lv_iconst (v := 0) hx hb dL_undoes_33 (by decide) ?_
  refine lv_iconst (v := 0) hx hb dL_undoes_34 (by decide) ?_
  refine cl_o2 (rSP (A := blk b (b + 170)) (As := [.ref b, .int 13, .int 0, .int 0, .int 0]) (rest := []) ⟨hx, hb, hml, hown, hts⟩ (c_call_13 l G b Y 0 0 0 (nI (qK (xH Y) - 1)) (un Y) hst (RY).ho (RY).hk (und_q RY (by omega))) (va_cwS 5 hts gL_undoes_L_call rfl rfl rfl (by decide +kernel) ⟨(Nat.le_of_ble_eq_true rfl), (Nat.le_of_ble_eq_true rfl)⟩) hQ hO (thr_at hTh hS (fun q h => Or.inr h)) hN rfl hl.1 (Nat.le_of_ble_eq_true rfl) dL_undoes_35 ⟨(Nat.le_of_ble_eq_true rfl), (Nat.le_of_ble_eq_true rfl)⟩) hS (fun q h => Or.inr h) hP (Or.inr hd) (fun H locs hQ hP hS => ?_)
  refine cl_pi (rS (As := [.int (nI (qK (xH Y) - 1))]) (rest := []) ⟨hx, hb, hml, hown, hts⟩ (c_L_thrown l G (nI (qK (xH Y) - 1))) (va_cwS 1 hts gL_undoes_L_thrown rfl rfl rfl (by decide +kernel) ⟨(Nat.le_of_ble_eq_true rfl), (Nat.le_of_ble_eq_true rfl)⟩) trivial hO rfl hl.1 (Nat.le_of_ble_eq_true rfl) dL_undoes_38 ⟨(Nat.le_of_ble_eq_true rfl), (Nat.le_of_ble_eq_true rfl)⟩) ?_
  refine lv_if_ne (tgt := 48) hx hb dL_undoes_41 (by decide) (fun c4 => absurd (thrown_n (a := (qK (xH Y) - 1)) (by have := RX.hk; have := RY.hk; (try rw [un_K]); omega)) c4) (fun _ => ?_)
  refine lv_iconst (v := 1) hx hb dL_undoes_44 (by decide) ?_
  refine lv_goto (tgt := 49) hx hb dL_undoes_45 (by decide) ?_
  refine lv_istore_n (lv' := [(3, .int 1), (4, .int (nI k)), (0, .ref a), (1, .ref b), (2, .int (nI k))]) hx hb dL_undoes_49 rfl hl (by decide) rfl (fun ls hl => ?_)
  refine lv_iinc (v := nI (k - 60)) (lv' := [(4, .int (nI (k - 60))), (3, .int 1), (0, .ref a), (1, .ref b), (2, .int (nI k))]) hx hb dL_undoes_50 hl (k := 1) rfl (sub_60 (by omega)) (by decide) rfl (fun ls hl => ?_)
  refine lv_goto (tgt := 5) hx hb dL_undoes_53 (by decide) ?_
  refine lv_iload hx hb dL_undoes_5 (lv_at hl 0 rfl) ?_
  refine lv_if_le (tgt := 56) hx hb dL_undoes_7 (by decide) (fun c5 => absurd c5 (nI_ge (a := 0) (b := k - 60) (by omega) (by omega))) (fun _ => ?_)
  refine lv_iload_n hx hb dL_undoes_10 rfl (lv_at hl 1 rfl) ?_
  refine lv_if_eq (tgt := 56) hx hb dL_undoes_11 (by decide) (fun c6 => absurd c6 (by decide)) (fun _ => ?_)
  refine lv_aload_n hx hb dL_undoes_14 rfl (lv_at hl 2 rfl) ?_
  refine lv_bipush (v := 13) hx hb dL_undoes_15 (by decide) ?_
  refine lv_iconst (v := 0) hx hb dL_undoes_17 (by decide) ?_
  refine lv_iconst (v := 0) hx hb dL_undoes_18 (by decide) ?_
  refine lv_iconst (v := 0) hx hb dL_undoes_19 (by decide) ?_
  refine cl_o2 (rSP (A := blk a (a + 170)) (As := [.ref a, .int 13, .int 0, .int 0, .int 0]) (rest := []) ⟨hx, hb, hml, hown, hts⟩ (c_call_13 l G a (un X) 0 0 0 (nI (qK (xH (un X)) - 1)) (un (un X)) hst (((ac_undo RX (by omega)).2)).ho (((ac_undo RX (by omega)).2)).hk (und_q ((ac_undo RX (by omega)).2) (by rw [un_K]; omega))) (va_cwS 5 hts gL_undoes_L_call rfl rfl rfl (by decide +kernel) ⟨(Nat.le_of_ble_eq_true rfl), (Nat.le_of_ble_eq_true rfl)⟩) hP hO (thr_at hTh hS (fun q h => Or.inl h)) hN rfl hl.1 (Nat.le_of_ble_eq_true rfl) dL_undoes_20 ⟨(Nat.le_of_ble_eq_true rfl), (Nat.le_of_ble_eq_true rfl)⟩) hS (fun q h => Or.inl h) hQ (Or.inl hd) (fun H locs hP hQ hS => ?_)
  refine cl_pi (rS (As := [.int (nI (qK (xH (un X)) - 1))]) (rest := []) ⟨hx, hb, hml, hown, hts⟩ (c_L_thrown l G (nI (qK (xH (un X)) - 1))) (va_cwS 1 hts gL_undoes_L_thrown rfl rfl rfl (by decide +kernel) ⟨(Nat.le_of_ble_eq_true rfl), (Nat.le_of_ble_eq_true rfl)⟩) trivial hO rfl hl.1 (Nat.le_of_ble_eq_true rfl) dL_undoes_23 ⟨(Nat.le_of_ble_eq_true rfl), (Nat.le_of_ble_eq_true rfl)⟩) ?_
  refine lv_if_ne (tgt := 48) hx hb dL_undoes_26 (by decide) (fun c7 => absurd (thrown_n (a := (qK (xH (un X)) - 1)) (by have := RX.hk; have := RY.hk; (try rw [un_K]); omega)) c7) (fun _ => ?_)
  refine lv_aload_n hx hb dL_undoes_29 rfl (lv_at hl 3 rfl) ?_
  refine lv_bipush (v := 13) hx hb dL_undoes_30 (by decide) ?_
  refine lv_iconst (v := 0) hx hb dL_undoes_32 (by decide) ?_
  refine lv_iconst (v := 0) hx hb dL_undoes_33 (by decide) ?_
  refine lv_iconst (v := 0) hx hb dL_undoes_34 (by decide) ?_
  refine cl_o2 (rSP (A := blk b (b + 170)) (As := [.ref b, .int 13, .int 0, .int 0, .int 0]) (rest := []) ⟨hx, hb, hml, hown, hts⟩ (c_call_13 l G b (un Y) 0 0 0 (nI (qK (xH (un Y)) - 1)) (un (un Y)) hst (((ac_undo RY (by omega)).2)).ho (((ac_undo RY (by omega)).2)).hk (und_q ((ac_undo RY (by omega)).2) (by rw [un_K]; omega))) (va_cwS 5 hts gL_undoes_L_call rfl rfl rfl (by decide +kernel) ⟨(Nat.le_of_ble_eq_true rfl), (Nat.le_of_ble_eq_true rfl)⟩) hQ hO (thr_at hTh hS (fun q h => Or.inr h)) hN rfl hl.1 (Nat.le_of_ble_eq_true rfl) dL_undoes_35 ⟨(Nat.le_of_ble_eq_true rfl), (Nat.le_of_ble_eq_true rfl)⟩) hS (fun q h => Or.inr h) hP (Or.inr hd) (fun H locs hQ hP hS => ?_)
  refine cl_pi (rS (As := [.int (nI (qK (xH (un Y)) - 1))]) (rest := []) ⟨hx, hb, hml, hown, hts⟩ (c_L_thrown l G (nI (qK (xH (un Y)) - 1))) (va_cwS 1 hts gL_undoes_L_thrown rfl rfl rfl (by decide +kernel) ⟨(Nat.le_of_ble_eq_true rfl), (Nat.le_of_ble_eq_true rfl)⟩) trivial hO rfl hl.1 (Nat.le_of_ble_eq_true rfl) dL_undoes_38 ⟨(Nat.le_of_ble_eq_true rfl), (Nat.le_of_ble_eq_true rfl)⟩) ?_
  refine lv_if_ne (tgt := 48) hx hb dL_undoes_41 (by decide) (fun c8 => absurd (thrown_n (a := (qK (xH (un Y)) - 1)) (by have := RX.hk; have := RY.hk; (try rw [un_K]); omega)) c8) (fun _ => ?_)
  refine lv_iconst (v := 1) hx hb dL_undoes_44 (by decide) ?_
  refine lv_goto (tgt := 49) hx hb dL_undoes_45 (by decide) ?_
  refine lv_istore_n (lv' := [(3, .int 1), (4, .int (nI (k - 60))), (0, .ref a), (1, .ref b), (2, .int (nI k))]) hx hb dL_undoes_49 rfl hl (by decide) rfl (fun ls hl => ?_)
  refine lv_iinc (v := (nI (k - 60)) + (-60)) (lv' := [(4, .int ((nI (k - 60)) + (-60))), (3, .int 1), (0, .ref a), (1, .ref b), (2, .int (nI k))]) hx hb dL_undoes_50 hl (k := 1) rfl rfl (by decide) rfl (fun ls hl => ?_)
  refine lv_goto (tgt := 5) hx hb dL_undoes_53 (by decide) ?_
  refine lv_iload hx hb dL_undoes_5 (lv_at hl 0 rfl) ?_
  refine lv_if_le (tgt := 56) hx hb dL_undoes_7 (by decide) (fun _ => ?_) (fun c9 => absurd (le_60 (by omega)) c9)
  refine lv_iload_n hx hb dL_undoes_56 rfl (lv_at hl 1 rfl) ?_
  exact W.widen (k := 4) (n := 24) (Nat.le_of_ble_eq_true rfl) (Nat.le_of_ble_eq_true rfl) (W.zret (ty := .boolean) hx hb hr rfl (fun t ht hW => ⟨rfl, by rw [ht]; exact (by rw [ut, if_neg (by omega), if_neg (by omega), ut, if_neg (by omega), if_neg (by omega)]; exact ⟨hP, hQ⟩), hS.F ht⟩) hS.2.2 dL_undoes_57)

theorem c_L_undoes (l : Launch) (G : GG) (a b : Nat) (hd : a + 170 ≤ b) (X Y : Cx) (M : Mo) (k : Nat) (hst : l.stackTraces = false) (RX : RelX X M) (RY : RelX Y M) (hk : k ≤ 100) (hx2 : un2 k ≤ qK (xH X)) (hy2 : un2 k ≤ qK (xH Y)) : Met l yL_undoes wsL_undoes ({ frames := 12, cells := 4, slots := 24, locals := 210 }) (PcN G (fun q => blk a (a + 170) q ∨ blk b (b + 170) q) [.ref a, .ref b, .int (nI k)] (fun H => Cb G a X H ∧ Cb G b Y H)) (QM (some (.int 1)) (fun H => Cb G a (ut X k) H ∧ Cb G b (ut Y k) H) (fun q => blk a (a + 170) q ∨ blk b (b + 170) q)) 4 24 (fun q => blk a (a + 170) q ∨ blk b (b + 170) q) := by
  rcases Nat.eq_zero_or_pos k with z | z
  · exact c_L_undoes_0 l G a b hd X Y M k hst RX RY z hx2 hy2
  · rcases Nat.lt_or_ge 60 k with w | w
    · exact c_L_undoes_2 l G a b hd X Y M k hst RX RY ⟨w, hk⟩ hx2 hy2
    · exact c_L_undoes_1 l G a b hd X Y M k hst RX RY ⟨z, w⟩ hx2 hy2

set_option maxHeartbeats 4000000 in
set_option maxRecDepth 100000 in
theorem c_L_waits_0 (l : Launch) (G : GG) (a b : Nat) (hd : a + 170 ≤ b) (X Y : Cx) (M : Mo) (k : Nat) (hst : l.stackTraces = false) (RX : RelX X M) (RY : RelX Y M) (CX : Ch X) (CY : Ch Y) (hk : k = 0) : Met l yL_waits wsL_waits ({ frames := 12, cells := 4, slots := 24, locals := 210 }) (PcN G (fun q => blk a (a + 170) q ∨ blk b (b + 170) q) [.ref a, .ref b, .int (nI k)] (fun H => Cb G a X H ∧ Cb G b Y H)) (QM (some (.int 1)) (fun H => Cb G a (wt X k) H ∧ Cb G b (wt Y k) H) (fun q => blk a (a + 170) q ∨ blk b (b + 170) q)) 4 24 (fun q => blk a (a + 170) q ∨ blk b (b + 170) q) := by
  refine metN (cc := cL_waits) (maxL := 7) (ret := (some .boolean)) (by decide) rfl ?_
  intro p e s m below meth cd hx hb hr hml hown hts hlocks hP hO hTh hN
  obtain ⟨hP, hQ⟩ := hP
  have hS : va_S (fun q => blk a (a + 170) q ∨ blk b (b + 170) q) s.heap s.heap [] := va_S.rf
  have hl := lv_entry ([.ref a, .ref b, .int (nI k)]) (n := 7) (Nat.le_of_ble_eq_true rfl)
  rw [lg_entry_eq]
  generalize (lg_sl ([.ref a, .ref b, .int (nI k)]) ++ List.replicate (7 - (lg_sl ([.ref a, .ref b, .int (nI k)])).length) Slot.unset).toArray = ls at hl ⊢
  have hl : lv_has ls 7 [(0, .ref a), (1, .ref b), (2, .int (nI k))] := hl
  refine lv_iconst (v := 1) hx hb dL_waits_0 (by decide) ?_
  refine lv_istore_n (lv' := [(3, .int 1), (0, .ref a), (1, .ref b), (2, .int (nI k))]) hx hb dL_waits_1 rfl hl (by decide) rfl (fun ls hl => ?_)
  refine lv_iload_n hx hb dL_waits_2 rfl (lv_at hl 3 rfl) ?_
  refine lv_istore (lv' := [(4, .int (nI k)), (3, .int 1), (0, .ref a), (1, .ref b), (2, .int (nI k))]) hx hb dL_waits_3 hl (by decide) rfl (fun ls hl => ?_)
  refine lv_iload hx hb dL_waits_5 (lv_at hl 0 rfl) ?_
  refine lv_if_le (tgt := 74) hx hb dL_waits_7 (by decide) (fun _ => ?_) (fun c1 => absurd (nI_le (a := k) (b := 0) (by omega) (by omega)) c1)
  refine lv_iload_n hx hb dL_waits_74 rfl (lv_at hl 1 rfl) ?_
  exact W.widen (k := 4) (n := 24) (Nat.le_of_ble_eq_true rfl) (Nat.le_of_ble_eq_true rfl) (W.zret (ty := .boolean) hx hb hr rfl (fun t ht hW => ⟨rfl, by rw [ht]; exact (by rw [wt, if_pos hk, wt, if_pos hk]; exact ⟨hP, hQ⟩), hS.F ht⟩) hS.2.2 dL_waits_75)

set_option maxHeartbeats 4000000 in
set_option maxRecDepth 100000 in
theorem c_L_waits_1 (l : Launch) (G : GG) (a b : Nat) (hd : a + 170 ≤ b) (X Y : Cx) (M : Mo) (k : Nat) (hst : l.stackTraces = false) (RX : RelX X M) (RY : RelX Y M) (CX : Ch X) (CY : Ch Y) (hk : 1 ≤ k ∧ k ≤ 60) : Met l yL_waits wsL_waits ({ frames := 12, cells := 4, slots := 24, locals := 210 }) (PcN G (fun q => blk a (a + 170) q ∨ blk b (b + 170) q) [.ref a, .ref b, .int (nI k)] (fun H => Cb G a X H ∧ Cb G b Y H)) (QM (some (.int 1)) (fun H => Cb G a (wt X k) H ∧ Cb G b (wt Y k) H) (fun q => blk a (a + 170) q ∨ blk b (b + 170) q)) 4 24 (fun q => blk a (a + 170) q ∨ blk b (b + 170) q) := by
  refine metN (cc := cL_waits) (maxL := 7) (ret := (some .boolean)) (by decide) rfl ?_
  intro p e s m below meth cd hx hb hr hml hown hts hlocks hP hO hTh hN
  obtain ⟨hP, hQ⟩ := hP
  have hS : va_S (fun q => blk a (a + 170) q ∨ blk b (b + 170) q) s.heap s.heap [] := va_S.rf
  have hl := lv_entry ([.ref a, .ref b, .int (nI k)]) (n := 7) (Nat.le_of_ble_eq_true rfl)
  rw [lg_entry_eq]
  generalize (lg_sl ([.ref a, .ref b, .int (nI k)]) ++ List.replicate (7 - (lg_sl ([.ref a, .ref b, .int (nI k)])).length) Slot.unset).toArray = ls at hl ⊢
  have hl : lv_has ls 7 [(0, .ref a), (1, .ref b), (2, .int (nI k))] := hl
  refine lv_iconst (v := 1) hx hb dL_waits_0 (by decide) ?_
  refine lv_istore_n (lv' := [(3, .int 1), (0, .ref a), (1, .ref b), (2, .int (nI k))]) hx hb dL_waits_1 rfl hl (by decide) rfl (fun ls hl => ?_)
  refine lv_iload_n hx hb dL_waits_2 rfl (lv_at hl 3 rfl) ?_
  refine lv_istore (lv' := [(4, .int (nI k)), (3, .int 1), (0, .ref a), (1, .ref b), (2, .int (nI k))]) hx hb dL_waits_3 hl (by decide) rfl (fun ls hl => ?_)
  refine lv_iload hx hb dL_waits_5 (lv_at hl 0 rfl) ?_
  refine lv_if_le (tgt := 74) hx hb dL_waits_7 (by decide) (fun c1 => absurd c1 (nI_ge (a := 0) (b := k) (by omega) (by omega))) (fun _ => ?_)
  refine lv_iload_n hx hb dL_waits_10 rfl (lv_at hl 1 rfl) ?_
  refine lv_if_eq (tgt := 74) hx hb dL_waits_11 (by decide) (fun c2 => absurd c2 (by decide)) (fun _ => ?_)
  refine lv_iload hx hb dL_waits_14 (lv_at hl 0 rfl) ?_
  refine lv_bipush (v := 60) hx hb dL_waits_16 (by decide) ?_
  refine lv_icmp_le (tgt := 26) hx hb dL_waits_18 (by decide) (fun _ => ?_) (fun c3 => absurd (nI_le (a := k) (b := 60) (by omega) (by omega)) c3)
  refine lv_iload hx hb dL_waits_26 (lv_at hl 0 rfl) ?_
  refine lv_istore (lv' := [(5, .int (nI k)), (4, .int (nI k)), (3, .int 1), (0, .ref a), (1, .ref b), (2, .int (nI k))]) hx hb dL_waits_28 hl (by decide) rfl (fun ls hl => ?_)
  refine lv_aload_n hx hb dL_waits_30 rfl (lv_at hl 3 rfl) ?_
  refine lv_bipush (v := 11) hx hb dL_waits_31 (by decide) ?_
  refine lv_iload hx hb dL_waits_33 (lv_at hl 0 rfl) ?_
  refine lv_iconst (v := 0) hx hb dL_waits_35 (by decide) ?_
  refine lv_iconst (v := 0) hx hb dL_waits_36 (by decide) ?_
  refine cl_o2 (rSP (A := blk a (a + 170)) (As := [.ref a, .int 11, .int (nI k), .int 0, .int 0]) (rest := []) ⟨hx, hb, hml, hown, hts⟩ (c_call_11 l G a X (nI k) 0 0 ((h_X7_minutesOn (mN M) (nI k)).1) (wt X k) hst (RX).ho (RX).hk (aq_min (p := k) (by omega) RX CX).1) (va_cwS 5 hts gL_waits_L_call rfl rfl rfl (by decide +kernel) ⟨(Nat.le_of_ble_eq_true rfl), (Nat.le_of_ble_eq_true rfl)⟩) hP hO (thr_at hTh hS (fun q h => Or.inl h)) hN rfl hl.1 (Nat.le_of_ble_eq_true rfl) dL_waits_37 ⟨(Nat.le_of_ble_eq_true rfl), (Nat.le_of_ble_eq_true rfl)⟩) hS (fun q h => Or.inl h) hQ (Or.inl hd) (fun H locs hP hQ hS => ?_)
  refine lv_istore (lv' := [(6, .int ((h_X7_minutesOn (mN M) (nI k)).1)), (5, .int (nI k)), (4, .int (nI k)), (3, .int 1), (0, .ref a), (1, .ref b), (2, .int (nI k))]) hx hb dL_waits_40 hl (by decide) rfl (fun ls hl => ?_)
  refine lv_iload hx hb dL_waits_42 (lv_at hl 0 rfl) ?_
  refine lv_if_lt (tgt := 66) hx hb dL_waits_44 (by decide) (fun c4 => absurd c4 (min_pos RX (p := k) (by omega))) (fun _ => ?_)
  refine lv_aload_n hx hb dL_waits_47 rfl (lv_at hl 5 rfl) ?_
  refine lv_bipush (v := 11) hx hb dL_waits_48 (by decide) ?_
  refine lv_iload hx hb dL_waits_50 (lv_at hl 1 rfl) ?_
  refine lv_iconst (v := 0) hx hb dL_waits_52 (by decide) ?_
  refine lv_iconst (v := 0) hx hb dL_waits_53 (by decide) ?_
  refine cl_o2 (rSP (A := blk b (b + 170)) (As := [.ref b, .int 11, .int (nI k), .int 0, .int 0]) (rest := []) ⟨hx, hb, hml, hown, hts⟩ (c_call_11 l G b Y (nI k) 0 0 ((h_X7_minutesOn (mN M) (nI k)).1) (wt Y k) hst (RY).ho (RY).hk (aq_min (p := k) (by omega) RY CY).1) (va_cwS 5 hts gL_waits_L_call rfl rfl rfl (by decide +kernel) ⟨(Nat.le_of_ble_eq_true rfl), (Nat.le_of_ble_eq_true rfl)⟩) hQ hO (thr_at hTh hS (fun q h => Or.inr h)) hN rfl hl.1 (Nat.le_of_ble_eq_true rfl) dL_waits_54 ⟨(Nat.le_of_ble_eq_true rfl), (Nat.le_of_ble_eq_true rfl)⟩) hS (fun q h => Or.inr h) hP (Or.inr hd) (fun H locs hQ hP hS => ?_)
  refine lv_iload hx hb dL_waits_57 (lv_at hl 0 rfl) ?_
  refine lv_icmp_ne (tgt := 66) hx hb dL_waits_59 (by decide) (fun c5 => absurd rfl c5) (fun _ => ?_)
  refine lv_iconst (v := 1) hx hb dL_waits_62 (by decide) ?_
  refine lv_goto (tgt := 67) hx hb dL_waits_63 (by decide) ?_
  refine lv_istore_n (lv' := [(3, .int 1), (6, .int ((h_X7_minutesOn (mN M) (nI k)).1)), (5, .int (nI k)), (4, .int (nI k)), (0, .ref a), (1, .ref b), (2, .int (nI k))]) hx hb dL_waits_67 rfl hl (by decide) rfl (fun ls hl => ?_)
  refine lv_iinc (v := (nI k) + (-60)) (lv' := [(4, .int ((nI k) + (-60))), (3, .int 1), (6, .int ((h_X7_minutesOn (mN M) (nI k)).1)), (5, .int (nI k)), (0, .ref a), (1, .ref b), (2, .int (nI k))]) hx hb dL_waits_68 hl (k := 3) rfl rfl (by decide) rfl (fun ls hl => ?_)
  refine lv_goto (tgt := 5) hx hb dL_waits_71 (by decide) ?_
  refine lv_iload hx hb dL_waits_5 (lv_at hl 0 rfl) ?_
  refine lv_if_le (tgt := 74) hx hb dL_waits_7 (by decide) (fun _ => ?_) (fun c6 => absurd (le_60 (by omega)) c6)
  refine lv_iload_n hx hb dL_waits_74 rfl (lv_at hl 1 rfl) ?_
  exact W.widen (k := 4) (n := 24) (Nat.le_of_ble_eq_true rfl) (Nat.le_of_ble_eq_true rfl) (W.zret (ty := .boolean) hx hb hr rfl (fun t ht hW => ⟨rfl, by rw [ht]; exact ⟨hP, hQ⟩, hS.F ht⟩) hS.2.2 dL_waits_75)

set_option maxHeartbeats 4000000 in
set_option maxRecDepth 100000 in
theorem c_L_waits_2 (l : Launch) (G : GG) (a b : Nat) (hd : a + 170 ≤ b) (X Y : Cx) (M : Mo) (k : Nat) (hst : l.stackTraces = false) (RX : RelX X M) (RY : RelX Y M) (CX : Ch X) (CY : Ch Y) (hk : 61 ≤ k ∧ k ≤ 100) : Met l yL_waits wsL_waits ({ frames := 12, cells := 4, slots := 24, locals := 210 }) (PcN G (fun q => blk a (a + 170) q ∨ blk b (b + 170) q) [.ref a, .ref b, .int (nI k)] (fun H => Cb G a X H ∧ Cb G b Y H)) (QM (some (.int 1)) (fun H => Cb G a (wt X k) H ∧ Cb G b (wt Y k) H) (fun q => blk a (a + 170) q ∨ blk b (b + 170) q)) 4 24 (fun q => blk a (a + 170) q ∨ blk b (b + 170) q) := by
  refine metN (cc := cL_waits) (maxL := 7) (ret := (some .boolean)) (by decide) rfl ?_
  intro p e s m below meth cd hx hb hr hml hown hts hlocks hP hO hTh hN
  obtain ⟨hP, hQ⟩ := hP
  have hS : va_S (fun q => blk a (a + 170) q ∨ blk b (b + 170) q) s.heap s.heap [] := va_S.rf
  have hl := lv_entry ([.ref a, .ref b, .int (nI k)]) (n := 7) (Nat.le_of_ble_eq_true rfl)
  rw [lg_entry_eq]
  generalize (lg_sl ([.ref a, .ref b, .int (nI k)]) ++ List.replicate (7 - (lg_sl ([.ref a, .ref b, .int (nI k)])).length) Slot.unset).toArray = ls at hl ⊢
  have hl : lv_has ls 7 [(0, .ref a), (1, .ref b), (2, .int (nI k))] := hl
  refine lv_iconst (v := 1) hx hb dL_waits_0 (by decide) ?_
  refine lv_istore_n (lv' := [(3, .int 1), (0, .ref a), (1, .ref b), (2, .int (nI k))]) hx hb dL_waits_1 rfl hl (by decide) rfl (fun ls hl => ?_)
  refine lv_iload_n hx hb dL_waits_2 rfl (lv_at hl 3 rfl) ?_
  refine lv_istore (lv' := [(4, .int (nI k)), (3, .int 1), (0, .ref a), (1, .ref b), (2, .int (nI k))]) hx hb dL_waits_3 hl (by decide) rfl (fun ls hl => ?_)
  refine lv_iload hx hb dL_waits_5 (lv_at hl 0 rfl) ?_
  refine lv_if_le (tgt := 74) hx hb dL_waits_7 (by decide) (fun c1 => absurd c1 (nI_ge (a := 0) (b := k) (by omega) (by omega))) (fun _ => ?_)
  refine lv_iload_n hx hb dL_waits_10 rfl (lv_at hl 1 rfl) ?_
  refine lv_if_eq (tgt := 74) hx hb dL_waits_11 (by decide) (fun c2 => absurd c2 (by decide)) (fun _ => ?_)
  refine lv_iload hx hb dL_waits_14 (lv_at hl 0 rfl) ?_
  refine lv_bipush (v := 60) hx hb dL_waits_16 (by decide) ?_
  refine lv_icmp_le (tgt := 26) hx hb dL_waits_18 (by decide) (fun c3 => absurd c3 (nI_ge (a := 60) (b := k) (by omega) (by omega))) (fun _ => ?_)
  refine lv_bipush (v := 60) hx hb dL_waits_21 (by decide) ?_
  refine lv_goto (tgt := 28) hx hb dL_waits_23 (by decide) ?_
  refine lv_istore (lv' := [(5, .int 60), (4, .int (nI k)), (3, .int 1), (0, .ref a), (1, .ref b), (2, .int (nI k))]) hx hb dL_waits_28 hl (by decide) rfl (fun ls hl => ?_)
  refine lv_aload_n hx hb dL_waits_30 rfl (lv_at hl 3 rfl) ?_
  refine lv_bipush (v := 11) hx hb dL_waits_31 (by decide) ?_
  refine lv_iload hx hb dL_waits_33 (lv_at hl 0 rfl) ?_
  refine lv_iconst (v := 0) hx hb dL_waits_35 (by decide) ?_
  refine lv_iconst (v := 0) hx hb dL_waits_36 (by decide) ?_
  refine cl_o2 (rSP (A := blk a (a + 170)) (As := [.ref a, .int 11, .int 60, .int 0, .int 0]) (rest := []) ⟨hx, hb, hml, hown, hts⟩ (c_call_11 l G a X 60 0 0 ((h_X7_minutesOn (mN M) (nI 60)).1) (wt X 60) hst (RX).ho (RX).hk (aq_min (p := 60) (by omega) RX CX).1) (va_cwS 5 hts gL_waits_L_call rfl rfl rfl (by decide +kernel) ⟨(Nat.le_of_ble_eq_true rfl), (Nat.le_of_ble_eq_true rfl)⟩) hP hO (thr_at hTh hS (fun q h => Or.inl h)) hN rfl hl.1 (Nat.le_of_ble_eq_true rfl) dL_waits_37 ⟨(Nat.le_of_ble_eq_true rfl), (Nat.le_of_ble_eq_true rfl)⟩) hS (fun q h => Or.inl h) hQ (Or.inl hd) (fun H locs hP hQ hS => ?_)
  refine lv_istore (lv' := [(6, .int ((h_X7_minutesOn (mN M) (nI 60)).1)), (5, .int 60), (4, .int (nI k)), (3, .int 1), (0, .ref a), (1, .ref b), (2, .int (nI k))]) hx hb dL_waits_40 hl (by decide) rfl (fun ls hl => ?_)
  refine lv_iload hx hb dL_waits_42 (lv_at hl 0 rfl) ?_
  refine lv_if_lt (tgt := 66) hx hb dL_waits_44 (by decide) (fun c4 => absurd c4 (min_pos RX (p := 60) (by omega))) (fun _ => ?_)
  refine lv_aload_n hx hb dL_waits_47 rfl (lv_at hl 5 rfl) ?_
  refine lv_bipush (v := 11) hx hb dL_waits_48 (by decide) ?_
  refine lv_iload hx hb dL_waits_50 (lv_at hl 1 rfl) ?_
  refine lv_iconst (v := 0) hx hb dL_waits_52 (by decide) ?_
  refine lv_iconst (v := 0) hx hb dL_waits_53 (by decide) ?_
  refine cl_o2 (rSP (A := blk b (b + 170)) (As := [.ref b, .int 11, .int 60, .int 0, .int 0]) (rest := []) ⟨hx, hb, hml, hown, hts⟩ (c_call_11 l G b Y 60 0 0 ((h_X7_minutesOn (mN M) (nI 60)).1) (wt Y 60) hst (RY).ho (RY).hk (aq_min (p := 60) (by omega) RY CY).1) (va_cwS 5 hts gL_waits_L_call rfl rfl rfl (by decide +kernel) ⟨(Nat.le_of_ble_eq_true rfl), (Nat.le_of_ble_eq_true rfl)⟩) hQ hO (thr_at hTh hS (fun q h => Or.inr h)) hN rfl hl.1 (Nat.le_of_ble_eq_true rfl) dL_waits_54 ⟨(Nat.le_of_ble_eq_true rfl), (Nat.le_of_ble_eq_true rfl)⟩) hS (fun q h => Or.inr h) hP (Or.inr hd) (fun H locs hQ hP hS => ?_)
  refine lv_iload hx hb dL_waits_57 (lv_at hl 0 rfl) ?_
  refine lv_icmp_ne (tgt := 66) hx hb dL_waits_59 (by decide) (fun c5 => absurd rfl c5) (fun _ => ?_)
  refine lv_iconst (v := 1) hx hb dL_waits_62 (by decide) ?_
  refine lv_goto (tgt := 67) hx hb dL_waits_63 (by decide) ?_
  refine lv_istore_n (lv' := [(3, .int 1), (6, .int ((h_X7_minutesOn (mN M) (nI 60)).1)), (5, .int 60), (4, .int (nI k)), (0, .ref a), (1, .ref b), (2, .int (nI k))]) hx hb dL_waits_67 rfl hl (by decide) rfl (fun ls hl => ?_)
  refine lv_iinc (v := nI (k - 60)) (lv' := [(4, .int (nI (k - 60))), (3, .int 1), (6, .int ((h_X7_minutesOn (mN M) (nI 60)).1)), (5, .int 60), (0, .ref a), (1, .ref b), (2, .int (nI k))]) hx hb dL_waits_68 hl (k := 3) rfl (sub_60 (by omega)) (by decide) rfl (fun ls hl => ?_)
  refine lv_goto (tgt := 5) hx hb dL_waits_71 (by decide) ?_
  refine lv_iload hx hb dL_waits_5 (lv_at hl 0 rfl) ?_
  refine lv_if_le (tgt := 74) hx hb dL_waits_7 (by decide) (fun c6 => absurd c6 (nI_ge (a := 0) (b := k - 60) (by omega) (by omega))) (fun _ => ?_)
  refine lv_iload_n hx hb dL_waits_10 rfl (lv_at hl 1 rfl) ?_
  refine lv_if_eq (tgt := 74) hx hb dL_waits_11 (by decide) (fun c7 => absurd c7 (by decide)) (fun _ => ?_)
  refine lv_iload hx hb dL_waits_14 (lv_at hl 0 rfl) ?_
  refine lv_bipush (v := 60) hx hb dL_waits_16 (by decide) ?_
  refine lv_icmp_le (tgt := 26) hx hb dL_waits_18 (by decide) (fun _ => ?_) (fun c8 => absurd (nI_le (a := k - 60) (b := 60) (by omega) (by omega)) c8)
  refine lv_iload hx hb dL_waits_26 (lv_at hl 0 rfl) ?_
  refine lv_istore (lv' := [(5, .int (nI (k - 60))), (4, .int (nI (k - 60))), (3, .int 1), (6, .int ((h_X7_minutesOn (mN M) (nI 60)).1)), (0, .ref a), (1, .ref b), (2, .int (nI k))]) hx hb dL_waits_28 hl (by decide) rfl (fun ls hl => ?_)
  refine lv_aload_n hx hb dL_waits_30 rfl (lv_at hl 4 rfl) ?_
  refine lv_bipush (v := 11) hx hb dL_waits_31 (by decide) ?_
  refine lv_iload hx hb dL_waits_33 (lv_at hl 0 rfl) ?_
  refine lv_iconst (v := 0) hx hb dL_waits_35 (by decide) ?_
  refine lv_iconst (v := 0) hx hb dL_waits_36 (by decide) ?_
  refine cl_o2 (rSP (A := blk a (a + 170)) (As := [.ref a, .int 11, .int (nI (k - 60)), .int 0, .int 0]) (rest := []) ⟨hx, hb, hml, hown, hts⟩ (c_call_11 l G a (wt X 60) (nI (k - 60)) 0 0 ((h_X7_minutesOn (mN ((h_X7_minutes M (nI 60)).2)) (nI (k - 60))).1) (wt (wt X 60) (k - 60)) hst (((aq_min (p := 60) (by omega) RX CX).2.1)).ho (((aq_min (p := 60) (by omega) RX CX).2.1)).hk (aq_min (p := k - 60) (by omega) ((aq_min (p := 60) (by omega) RX CX).2.1) ((aq_min (p := 60) (by omega) RX CX).2.2)).1) (va_cwS 5 hts gL_waits_L_call rfl rfl rfl (by decide +kernel) ⟨(Nat.le_of_ble_eq_true rfl), (Nat.le_of_ble_eq_true rfl)⟩) hP hO (thr_at hTh hS (fun q h => Or.inl h)) hN rfl hl.1 (Nat.le_of_ble_eq_true rfl) dL_waits_37 ⟨(Nat.le_of_ble_eq_true rfl), (Nat.le_of_ble_eq_true rfl)⟩) hS (fun q h => Or.inl h) hQ (Or.inl hd) (fun H locs hP hQ hS => ?_)
  refine lv_istore (lv' := [(6, .int ((h_X7_minutesOn (mN ((h_X7_minutes M (nI 60)).2)) (nI (k - 60))).1)), (5, .int (nI (k - 60))), (4, .int (nI (k - 60))), (3, .int 1), (0, .ref a), (1, .ref b), (2, .int (nI k))]) hx hb dL_waits_40 hl (by decide) rfl (fun ls hl => ?_)
  refine lv_iload hx hb dL_waits_42 (lv_at hl 0 rfl) ?_
  refine lv_if_lt (tgt := 66) hx hb dL_waits_44 (by decide) (fun c9 => absurd c9 (min_pos ((aq_min (p := 60) (by omega) RX CX).2.1) (p := (k - 60)) (by omega))) (fun _ => ?_)
  refine lv_aload_n hx hb dL_waits_47 rfl (lv_at hl 5 rfl) ?_
  refine lv_bipush (v := 11) hx hb dL_waits_48 (by decide) ?_
  refine lv_iload hx hb dL_waits_50 (lv_at hl 1 rfl) ?_
  refine lv_iconst (v := 0) hx hb dL_waits_52 (by decide) ?_
  refine lv_iconst (v := 0) hx hb dL_waits_53 (by decide) ?_
  refine cl_o2 (rSP (A := blk b (b + 170)) (As := [.ref b, .int 11, .int (nI (k - 60)), .int 0, .int 0]) (rest := []) ⟨hx, hb, hml, hown, hts⟩ (c_call_11 l G b (wt Y 60) (nI (k - 60)) 0 0 ((h_X7_minutesOn (mN ((h_X7_minutes M (nI 60)).2)) (nI (k - 60))).1) (wt (wt Y 60) (k - 60)) hst (((aq_min (p := 60) (by omega) RY CY).2.1)).ho (((aq_min (p := 60) (by omega) RY CY).2.1)).hk (aq_min (p := k - 60) (by omega) ((aq_min (p := 60) (by omega) RY CY).2.1) ((aq_min (p := 60) (by omega) RY CY).2.2)).1) (va_cwS 5 hts gL_waits_L_call rfl rfl rfl (by decide +kernel) ⟨(Nat.le_of_ble_eq_true rfl), (Nat.le_of_ble_eq_true rfl)⟩) hQ hO (thr_at hTh hS (fun q h => Or.inr h)) hN rfl hl.1 (Nat.le_of_ble_eq_true rfl) dL_waits_54 ⟨(Nat.le_of_ble_eq_true rfl), (Nat.le_of_ble_eq_true rfl)⟩) hS (fun q h => Or.inr h) hP (Or.inr hd) (fun H locs hQ hP hS => ?_)
  refine lv_iload hx hb dL_waits_57 (lv_at hl 0 rfl) ?_
  refine lv_icmp_ne (tgt := 66) hx hb dL_waits_59 (by decide) (fun c10 => absurd rfl c10) (fun _ => ?_)
  refine lv_iconst (v := 1) hx hb dL_waits_62 (by decide) ?_
  refine lv_goto (tgt := 67) hx hb dL_waits_63 (by decide) ?_
  refine lv_istore_n (lv' := [(3, .int 1), (6, .int ((h_X7_minutesOn (mN ((h_X7_minutes M (nI 60)).2)) (nI (k - 60))).1)), (5, .int (nI (k - 60))), (4, .int (nI (k - 60))), (0, .ref a), (1, .ref b), (2, .int (nI k))]) hx hb dL_waits_67 rfl hl (by decide) rfl (fun ls hl => ?_)
  refine lv_iinc (v := (nI (k - 60)) + (-60)) (lv' := [(4, .int ((nI (k - 60)) + (-60))), (3, .int 1), (6, .int ((h_X7_minutesOn (mN ((h_X7_minutes M (nI 60)).2)) (nI (k - 60))).1)), (5, .int (nI (k - 60))), (0, .ref a), (1, .ref b), (2, .int (nI k))]) hx hb dL_waits_68 hl (k := 3) rfl rfl (by decide) rfl (fun ls hl => ?_)
  refine lv_goto (tgt := 5) hx hb dL_waits_71 (by decide) ?_
  refine lv_iload hx hb dL_waits_5 (lv_at hl 0 rfl) ?_
  refine lv_if_le (tgt := 74) hx hb dL_waits_7 (by decide) (fun _ => ?_) (fun c11 => absurd (le_60 (by omega)) c11)
  refine lv_iload_n hx hb dL_waits_74 rfl (lv_at hl 1 rfl) ?_
  exact W.widen (k := 4) (n := 24) (Nat.le_of_ble_eq_true rfl) (Nat.le_of_ble_eq_true rfl) (W.zret (ty := .boolean) hx hb hr rfl (fun t ht hW => ⟨rfl, by rw [ht]; exact (by rw [← wt_2 (by omega) (by omega), ← wt_2 (X := Y) (by omega) (by omega)]; exact ⟨hP, hQ⟩), hS.F ht⟩) hS.2.2 dL_waits_75)

theorem c_L_waits (l : Launch) (G : GG) (a b : Nat) (hd : a + 170 ≤ b) (X Y : Cx) (M : Mo) (k : Nat) (hst : l.stackTraces = false) (RX : RelX X M) (RY : RelX Y M) (CX : Ch X) (CY : Ch Y) (hk : k ≤ 100) : Met l yL_waits wsL_waits ({ frames := 12, cells := 4, slots := 24, locals := 210 }) (PcN G (fun q => blk a (a + 170) q ∨ blk b (b + 170) q) [.ref a, .ref b, .int (nI k)] (fun H => Cb G a X H ∧ Cb G b Y H)) (QM (some (.int 1)) (fun H => Cb G a (wt X k) H ∧ Cb G b (wt Y k) H) (fun q => blk a (a + 170) q ∨ blk b (b + 170) q)) 4 24 (fun q => blk a (a + 170) q ∨ blk b (b + 170) q) := by
  rcases Nat.eq_zero_or_pos k with z | z
  · exact c_L_waits_0 l G a b hd X Y M k hst RX RY CX CY z
  · rcases Nat.lt_or_ge 60 k with w | w
    · exact c_L_waits_2 l G a b hd X Y M k hst RX RY CX CY ⟨w, hk⟩
    · exact c_L_waits_1 l G a b hd X Y M k hst RX RY CX CY ⟨z, w⟩
