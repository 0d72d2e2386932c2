theorem slot_x {x : Int32} (h : ¬ f_X6_requireSlot x = 0) : ∃ j, j < 2 ∧ x = nI j := by
  rw [f_X6_requireSlot] at h
  by_cases c1 : x < 0
  · rw [if_pos c1] at h
    exact absurd rfl h
  · rw [if_neg c1] at h
    by_cases c2 : x < 2
    · obtain ⟨j, hj, rfl⟩ := nI_of c1
      exact ⟨j, (nI_ltI (b := 2) hj (by omega)).mp c2, rfl⟩
    · rw [if_neg c2] at h
      exact absurd rfl h
theorem c_X1_keep_raw (l : Launch) (G : GG) (a b : Nat) (S : VS) (x : Int32) (hd : b + 9 ≤ a ∨ a + 21 ≤ b) (hx : ∃ j, j < 2 ∧ x = nI j) : Met l yX1_keep wsX1_keep ({ frames := 3, cells := 0, slots := 0, locals := 60 }) (PcH G [.ref a, .int x, .ref b] (Slt2 G a b S)) (QM none (Slt2 G a b (h_X1_keep S x.toNatClampNeg)) (blkh a 21 b)) 0 0 (blkh a 21 b) := by
  obtain ⟨j, hj, rfl⟩ := hx
  rw [nI_clamp (by omega)]
  exact c_X1_keep l G a b S j hd hj
theorem c_X1_giveBack_raw (l : Launch) (G : GG) (a b : Nat) (S : VS) (x : Int32) (hd : b + 9 ≤ a ∨ a + 21 ≤ b) (hx : ∃ j, j < 2 ∧ x = nI j) : Met l yX1_giveBack wsX1_giveBack ({ frames := 3, cells := 0, slots := 0, locals := 60 }) (PcH G [.ref a, .int x, .ref b] (Slt2 G a b S)) (QM none (Slt2 G a b (h_X1_giveBack S x.toNatClampNeg)) (blkh a 21 b)) 0 0 (blkh a 21 b) := by
  obtain ⟨j, hj, rfl⟩ := hx
  rw [nI_clamp (by omega)]
  exact c_X1_giveBack l G a b S j hd hj
theorem lt3 {w : Int32} {k : Nat} (h3 : w ≤ 3) (h : ¬ w ≤ nI k) (hk : k < 2 ^ 31) : k < 3 := by
  rw [Int32.le_iff_toInt_le, show (3 : Int32).toInt = 3 by decide] at h3
  rw [Int32.le_iff_toInt_le, nI_toInt hk] at h
  omega
theorem cmp_ne {x : Int64} (h : ¬ lg_cmp x 0 ≤ 0) : ¬ x = 0 := fun z => by
  rw [z] at h
  exact h (by decide)

def lp_xLoad  : Nat → Nat → Int32 → Int32 → Cx → String ⊕ (Int32 × Cx)
  | 0, _, out, _, X2 => .inr (out, X2)
  | n + 1, k, out, st, X2 => if 120 ≤ (nI k) then .inr (out, X2) else
    if (f_X5_hasLetter (xT X2) st) = 0 then .inr (out, X2) else
    if ((h_X5_doCommand (xT X2) (xN X2) st).1) = (-1) then lp_xLoad n (k + 1) (out + 1) (st + (f_X5_commandSize (xT (yN X2 ((h_X5_doCommand (xT X2) (xN X2) st).2))) st)) (yN X2 ((h_X5_doCommand (xT X2) (xN X2) st).2)) else
    lp_xLoad n (k + 1) out (st + (f_X5_commandSize (xT (yN X2 ((h_X5_doCommand (xT X2) (xN X2) st).2))) st)) (yN X2 ((h_X5_doCommand (xT X2) (xN X2) st).2))
def h_X6_load (X : Cx) : String ⊕ (Int32 × Cx) :=
  if (f_X5_firstError (xT X)) = (-1) then lp_xLoad (120 + 1) 0 0 1 (yS (yH (yN X (h_X4_makeNew (xN X))) (h_X0_forget (xH (yN X (h_X4_makeNew (xN X)))))) (h_X1_empty (xS (yH (yN X (h_X4_makeNew (xN X))) (h_X0_forget (xH (yN X (h_X4_makeNew (xN X))))))))) else
  .inl "java/lang/IllegalStateException"
set_option maxHeartbeats 4000000 in
set_option maxRecDepth 100000 in
theorem c_X6_load (l : Launch) (G : GG) (b : Nat) (X : Cx) (hst : l.stackTraces = false) : vx_Met l yX6_load wsX6_load ({ frames := 8, cells := 1, slots := 6, locals := 138 }) (PcT G (blk b (b + 170)) [.ref b] (Cb G b X)) (QX (h_X6_load X) (Cb G b) (blk b (b + 170))) (XX (h_X6_load X)) 1 6 (blk b (b + 170)) := by
  refine metX (cc := cX6_load) (maxL := 4) (ret := (some .int)) (by decide) rfl ?_
  intro p e s m below meth cd hx hb hr hml hown hts hlocks hno hP hO hTh
  have hin6 : ∀ w ∈ u_ws RX6 TX6 5, w ∈ wsX6_load := by decide +kernel
  have hf_10 := hts (.fieldLink RX6 10 "CurbCars" "text" "LCurbCars$StreetText;") (by decide +kernel)
  have hf_19 := hts (.fieldLink RX6 19 "CurbCars" "now" "LCurbCars$Street;") (by decide +kernel)
  have hf_29 := hts (.fieldLink RX6 29 "CurbCars" "history" "LCurbCars$History;") (by decide +kernel)
  have hf_36 := hts (.fieldLink RX6 36 "CurbCars" "slots" "LCurbCars$SaveSlots;") (by decide +kernel)
  have hA : ∀ q, (blk b (b + 170)) q → (blk b (b + 170)) q := fun _ h => h
  have hS : va_S (blk b (b + 170)) s.heap s.heap [] := va_S.rf
  have hl := lv_entry ([.ref b]) (n := 4) (Nat.le_of_ble_eq_true rfl)
  rw [lg_entry_eq]
  generalize (lg_sl ([.ref b]) ++ List.replicate (4 - (lg_sl ([.ref b])).length) Slot.unset).toArray = ls at hl ⊢
  have hl : lv_has ls 4 [(0, .ref b)] := hl
  have loop48 : ∀ (n : Nat) (k : Nat) (out : Int32) (st : Int32) (X2 : Cx), k ≤ 120 → k + n = 120 + 1 → h_X6_load X = lp_xLoad  n k out st X2 → ∀ (H : Heap) (locs : List Loc) (ls : Array Slot), Cb G b X2 H → va_S (blk b (b + 170)) s.heap H locs → lv_has ls 4 [(0, .ref b), (1, .int out), (2, .int st), (3, .int (nI k))] → W p l e (headSpec wsX6_load ({ frames := 8, cells := 1, slots := 6, locals := 138 } : Room)).room s m ([.ref b] : List Value).toArray below meth cd H locs 0 0 (vx_MQ below (QX (h_X6_load X) (Cb G b) (blk b (b + 170))) (XX (h_X6_load X)) ([.ref b] : List Value).toArray s 1 6 (blk b (b + 170))) (F0 m 48 ls []) := by
    intro n
    induction n with
    | zero =>
      intro k out st X2 hk hn hR H locs ls hP hS hl
      exact absurd hn (by omega)
    | succ n ih =>
      intro k out st X2 hk hn hR H locs ls hP hS hl
      refine lv_iload_n hx hb dX6_load_48 rfl (lv_at hl 3 rfl) ?_
      refine lv_bipush (v := 120) hx hb dX6_load_49 (by decide) ?_
      refine lv_icmp_ge (tgt := 101) hx hb dX6_load_51 (by decide) (fun c_1 => ?_) (fun c_1 => ?_)
      · refine lv_iload_n hx hb dX6_load_101 rfl (lv_at hl 1 rfl) ?_
        have hE : h_X6_load X = .inr (out, X2) := (hR.trans (by rw [lp_xLoad, if_pos c_1]))
        exact W.widen (k := 1) (n := 6) (Nat.le_of_ble_eq_true rfl) (Nat.le_of_ble_eq_true rfl) (vx_ret (W.iret hx hb hr (fun t ht hW => ⟨_, _, hE, rfl, by rw [ht]; exact hP, hS.F ht⟩) hS.2.2 dX6_load_102))
      · have hlt : k < 120 := kN (B := 120) c_1 (by omega) (by omega)
        refine lv_aload_n hx hb dX6_load_54 rfl (lv_at hl 0 rfl) ?_
        refine va_get (D := G.1) (ci := 4) (v := .ref (b + 1)) (C := RX6) (T := TX6) (N := 5) hx hb hts hin6 hown hO.1 hP.1 0 rfl rfl 0 (by decide) hf_10 (fun _ h9 => h9) rfl dX6_load_55 ?_
        refine lv_iload_n hx hb dX6_load_58 rfl (lv_at hl 2 rfl) ?_
        refine cl_pi (rVN (As := [.int st]) (rest := []) ⟨hx, hb, hml, hown, hts⟩ (c_X5_hasLetter l G (b + 1) (xT X2) st) ⟨va_cnB 1 hts gX6_load_X5_hasLetter_n77 rfl rfl rfl (hO.2 _ (List.mem_of_getElem? (i := 25) rfl)) (hts (.initialized RX5) (by decide +kernel)) (by decide +kernel) ⟨Nat.le_of_ble_eq_true rfl, Nat.le_of_ble_eq_true rfl⟩, hts (.instanceMethod yX5_hasLetter) (by decide +kernel), hts (.selects RX5 yX5_hasLetter yX5_hasLetter) (by decide +kernel)⟩ (tx_recv' hO hP.2.1) hP.2.1 hO rfl hl.1 (Nat.le_of_ble_eq_true rfl) dX6_load_59 ⟨Nat.le_of_ble_eq_true rfl, Nat.le_of_ble_eq_true rfl⟩) ?_
        refine lv_if_eq (tgt := 101) hx hb dX6_load_62 (by decide) (fun c_2 => ?_) (fun c_2 => ?_)
        · refine lv_iload_n hx hb dX6_load_101 rfl (lv_at hl 1 rfl) ?_
          have hE : h_X6_load X = .inr (out, X2) := (hR.trans (by rw [lp_xLoad, if_neg c_1, if_pos c_2]))
          exact W.widen (k := 1) (n := 6) (Nat.le_of_ble_eq_true rfl) (Nat.le_of_ble_eq_true rfl) (vx_ret (W.iret hx hb hr (fun t ht hW => ⟨_, _, hE, rfl, by rw [ht]; exact hP, hS.F ht⟩) hS.2.2 dX6_load_102))
        · refine lv_aload_n hx hb dX6_load_65 rfl (lv_at hl 0 rfl) ?_
          refine va_get (D := G.1) (ci := 4) (v := .ref (b + 1)) (C := RX6) (T := TX6) (N := 5) hx hb hts hin6 hown hO.1 hP.1 0 rfl rfl 0 (by decide) hf_10 (fun _ h9 => h9) rfl dX6_load_66 ?_
          refine lv_iload_n hx hb dX6_load_69 rfl (lv_at hl 2 rfl) ?_
          refine lv_aload_n hx hb dX6_load_70 rfl (lv_at hl 0 rfl) ?_
          refine va_get (D := G.1) (ci := 4) (v := .ref (b + 3)) (C := RX6) (T := TX6) (N := 5) hx hb hts hin6 hown hO.1 hP.1 0 rfl rfl 1 (by decide) hf_19 (fun _ h9 => h9) rfl dX6_load_71 ?_
          refine cl_mi (rVN (As := [.int st, .ref (b + 3)]) (rest := []) ⟨hx, hb, hml, hown, hts⟩ (c_X5_doCommand l G (b + 1) (b + 3) (xT X2) (xN X2) st) ⟨va_cnB 2 hts gX6_load_X5_doCommand_n81 rfl rfl rfl (hO.2 _ (List.mem_of_getElem? (i := 26) rfl)) (hts (.initialized RX5) (by decide +kernel)) (by decide +kernel) ⟨Nat.le_of_ble_eq_true rfl, Nat.le_of_ble_eq_true rfl⟩, hts (.instanceMethod yX5_doCommand) (by decide +kernel), hts (.selects RX5 yX5_doCommand yX5_doCommand) (by decide +kernel)⟩ (tx_recv' hO hP.2.1) ⟨hP.2.2.1, hP.2.1⟩ hO rfl hl.1 (Nat.le_of_ble_eq_true rfl) dX6_load_74 ⟨Nat.le_of_ble_eq_true rfl, Nat.le_of_ble_eq_true rfl⟩) hS (fun q h => hA q (by simp only [blk, blk2, blkh] at *; omega)) (fun H locs hP1 hz hk hS => ?_)
          have hP : Cb G b (yN X2 ((h_X5_doCommand (xT X2) (xN X2) st).2)) H := cb_now hP hP1 hk
          refine lv_iconst (v := -1) hx hb dX6_load_77 (by decide) ?_
          refine lv_icmp_ne (tgt := 84) hx hb dX6_load_78 (by decide) (fun c_3 => ?_) (fun c_3 => ?_)
          · refine lv_iload_n hx hb dX6_load_84 rfl (lv_at hl 2 rfl) ?_
            refine lv_aload_n hx hb dX6_load_85 rfl (lv_at hl 0 rfl) ?_
            refine va_get (D := G.1) (ci := 4) (v := .ref (b + 1)) (C := RX6) (T := TX6) (N := 5) hx hb hts hin6 hown hO.1 hP.1 0 rfl rfl 0 (by decide) hf_10 (fun _ h9 => h9) rfl dX6_load_86 ?_
            refine lv_iload_n hx hb dX6_load_89 rfl (lv_at hl 2 rfl) ?_
            refine cl_pi (rVN (As := [.int st]) (rest := [.int st]) ⟨hx, hb, hml, hown, hts⟩ (c_X5_commandSize l G (b + 1) (xT (yN X2 ((h_X5_doCommand (xT X2) (xN X2) st).2))) st) ⟨va_cnB 1 hts gX6_load_X5_commandSize_n85 rfl rfl rfl (hO.2 _ (List.mem_of_getElem? (i := 41) rfl)) (hts (.initialized RX5) (by decide +kernel)) (by decide +kernel) ⟨Nat.le_of_ble_eq_true rfl, Nat.le_of_ble_eq_true rfl⟩, hts (.instanceMethod yX5_commandSize) (by decide +kernel), hts (.selects RX5 yX5_commandSize yX5_commandSize) (by decide +kernel)⟩ (tx_recv' hO hP.2.1) hP.2.1 hO rfl hl.1 (Nat.le_of_ble_eq_true rfl) dX6_load_90 ⟨Nat.le_of_ble_eq_true rfl, Nat.le_of_ble_eq_true rfl⟩) ?_
            refine lv_iadd hx hb dX6_load_93 ?_
            refine lv_istore_n (lv' := [(2, .int (st + (f_X5_commandSize (xT (yN X2 ((h_X5_doCommand (xT X2) (xN X2) st).2))) st))), (0, .ref b), (1, .int out), (3, .int (nI k))]) hx hb dX6_load_94 rfl hl (by decide) rfl (fun ls hl => ?_)
            refine lv_iinc (v := nI (k + 1)) (lv' := [(3, .int (nI (k + 1))), (2, .int (st + (f_X5_commandSize (xT (yN X2 ((h_X5_doCommand (xT X2) (xN X2) st).2))) st))), (0, .ref b), (1, .int out)]) hx hb dX6_load_95 hl (k := 3) rfl (nI_1 _) (by decide) rfl (fun ls hl => ?_)
            refine lv_goto (tgt := 48) hx hb dX6_load_98 (by decide) ?_
            have hE_4 : h_X6_load X = lp_xLoad n (k + 1) out (st + (f_X5_commandSize (xT (yN X2 ((h_X5_doCommand (xT X2) (xN X2) st).2))) st)) (yN X2 ((h_X5_doCommand (xT X2) (xN X2) st).2)) := (hR.trans (by rw [lp_xLoad, if_neg c_1, if_neg c_2, if_neg c_3]))
            exact ih (k + 1) out (st + (f_X5_commandSize (xT (yN X2 ((h_X5_doCommand (xT X2) (xN X2) st).2))) st)) (yN X2 ((h_X5_doCommand (xT X2) (xN X2) st).2)) (by omega) (by omega) hE_4 _ _ _ hP hS (lv_sub hl [2, 3, 1, 0] rfl)
          · refine lv_iinc (v := out + 1) (lv' := [(1, .int (out + 1)), (0, .ref b), (2, .int st), (3, .int (nI k))]) hx hb dX6_load_81 hl (k := 1) rfl rfl (by decide) rfl (fun ls hl => ?_)
            refine lv_iload_n hx hb dX6_load_84 rfl (lv_at hl 2 rfl) ?_
            refine lv_aload_n hx hb dX6_load_85 rfl (lv_at hl 1 rfl) ?_
            refine va_get (D := G.1) (ci := 4) (v := .ref (b + 1)) (C := RX6) (T := TX6) (N := 5) hx hb hts hin6 hown hO.1 hP.1 0 rfl rfl 0 (by decide) hf_10 (fun _ h9 => h9) rfl dX6_load_86 ?_
            refine lv_iload_n hx hb dX6_load_89 rfl (lv_at hl 2 rfl) ?_
            refine cl_pi (rVN (As := [.int st]) (rest := [.int st]) ⟨hx, hb, hml, hown, hts⟩ (c_X5_commandSize l G (b + 1) (xT (yN X2 ((h_X5_doCommand (xT X2) (xN X2) st).2))) st) ⟨va_cnB 1 hts gX6_load_X5_commandSize_n85 rfl rfl rfl (hO.2 _ (List.mem_of_getElem? (i := 41) rfl)) (hts (.initialized RX5) (by decide +kernel)) (by decide +kernel) ⟨Nat.le_of_ble_eq_true rfl, Nat.le_of_ble_eq_true rfl⟩, hts (.instanceMethod yX5_commandSize) (by decide +kernel), hts (.selects RX5 yX5_commandSize yX5_commandSize) (by decide +kernel)⟩ (tx_recv' hO hP.2.1) hP.2.1 hO rfl hl.1 (Nat.le_of_ble_eq_true rfl) dX6_load_90 ⟨Nat.le_of_ble_eq_true rfl, Nat.le_of_ble_eq_true rfl⟩) ?_
            refine lv_iadd hx hb dX6_load_93 ?_
            refine lv_istore_n (lv' := [(2, .int (st + (f_X5_commandSize (xT (yN X2 ((h_X5_doCommand (xT X2) (xN X2) st).2))) st))), (1, .int (out + 1)), (0, .ref b), (3, .int (nI k))]) hx hb dX6_load_94 rfl hl (by decide) rfl (fun ls hl => ?_)
            refine lv_iinc (v := nI (k + 1)) (lv' := [(3, .int (nI (k + 1))), (2, .int (st + (f_X5_commandSize (xT (yN X2 ((h_X5_doCommand (xT X2) (xN X2) st).2))) st))), (1, .int (out + 1)), (0, .ref b)]) hx hb dX6_load_95 hl (k := 3) rfl (nI_1 _) (by decide) rfl (fun ls hl => ?_)
            refine lv_goto (tgt := 48) hx hb dX6_load_98 (by decide) ?_
            have hE_5 : h_X6_load X = lp_xLoad n (k + 1) (out + 1) (st + (f_X5_commandSize (xT (yN X2 ((h_X5_doCommand (xT X2) (xN X2) st).2))) st)) (yN X2 ((h_X5_doCommand (xT X2) (xN X2) st).2)) := (hR.trans (by rw [lp_xLoad, if_neg c_1, if_neg c_2, if_pos c_3]))
            exact ih (k + 1) (out + 1) (st + (f_X5_commandSize (xT (yN X2 ((h_X5_doCommand (xT X2) (xN X2) st).2))) st)) (yN X2 ((h_X5_doCommand (xT X2) (xN X2) st).2)) (by omega) (by omega) hE_5 _ _ _ hP hS (lv_sub hl [3, 2, 1, 0] rfl)
  refine lv_aload_n hx hb dX6_load_0 rfl (lv_at hl 0 rfl) ?_
  refine va_get (D := G.1) (ci := 4) (v := .ref (b + 1)) (C := RX6) (T := TX6) (N := 5) hx hb hts hin6 hown hO.1 hP.1 0 rfl rfl 0 (by decide) hf_10 (fun _ h9 => h9) rfl dX6_load_1 ?_
  refine cl_pi (rVN (As := []) (rest := []) ⟨hx, hb, hml, hown, hts⟩ (c_X5_firstError l G (b + 1) (xT X)) ⟨va_cnB 0 hts gX6_load_X5_firstError_n64 rfl rfl rfl (hO.2 _ (List.mem_of_getElem? (i := 21) rfl)) (hts (.initialized RX5) (by decide +kernel)) (by decide +kernel) ⟨Nat.le_of_ble_eq_true rfl, Nat.le_of_ble_eq_true rfl⟩, hts (.instanceMethod yX5_firstError) (by decide +kernel), hts (.selects RX5 yX5_firstError yX5_firstError) (by decide +kernel)⟩ (tx_recv' hO hP.2.1) hP.2.1 hO rfl hl.1 (Nat.le_of_ble_eq_true rfl) dX6_load_4 ⟨Nat.le_of_ble_eq_true rfl, Nat.le_of_ble_eq_true rfl⟩) ?_
  refine lv_iconst (v := -1) hx hb dX6_load_7 (by decide) ?_
  refine lv_icmp_eq (tgt := 21) hx hb dX6_load_8 (by decide) (fun c_6 => ?_) (fun c_6 => ?_)
  · refine lv_aload_n hx hb dX6_load_21 rfl (lv_at hl 0 rfl) ?_
    refine va_get (D := G.1) (ci := 4) (v := .ref (b + 3)) (C := RX6) (T := TX6) (N := 5) hx hb hts hin6 hown hO.1 hP.1 0 rfl rfl 1 (by decide) hf_19 (fun _ h9 => h9) rfl dX6_load_22 ?_
    refine cl_mv (rVN (As := []) (rest := []) ⟨hx, hb, hml, hown, hts⟩ (c_X4_makeNew l G (b + 3) (xN X)) ⟨va_cnB 0 hts gX6_load_X4_makeNew_n69 rfl rfl rfl (hO.2 _ (List.mem_of_getElem? (i := 22) rfl)) (hts (.initialized RX4) (by decide +kernel)) (by decide +kernel) ⟨Nat.le_of_ble_eq_true rfl, Nat.le_of_ble_eq_true rfl⟩, hts (.instanceMethod yX4_makeNew) (by decide +kernel), hts (.selects RX4 yX4_makeNew yX4_makeNew) (by decide +kernel)⟩ (st_recv hO hP.2.2.1) hP.2.2.1 hO rfl hl.1 (Nat.le_of_ble_eq_true rfl) dX6_load_25 ⟨Nat.le_of_ble_eq_true rfl, Nat.le_of_ble_eq_true rfl⟩) hS (fun q h => hA q (by simp only [blk, blk2, blkh] at *; omega)) (fun H locs hP1 hz hk hS => ?_)
    have hP : Cb G b (yN X (h_X4_makeNew (xN X))) H := cb_now hP hP1 hk
    refine lv_aload_n hx hb dX6_load_28 rfl (lv_at hl 0 rfl) ?_
    refine va_get (D := G.1) (ci := 4) (v := .ref (b + 21)) (C := RX6) (T := TX6) (N := 5) hx hb hts hin6 hown hO.1 hP.1 0 rfl rfl 3 (by decide) hf_29 (fun _ h9 => h9) rfl dX6_load_29 ?_
    refine cl_mv (rVN (As := []) (rest := []) ⟨hx, hb, hml, hown, hts⟩ (c_X0_forget l G (b + 21) (xH (yN X (h_X4_makeNew (xN X))))) ⟨va_cnB 0 hts gX6_load_X0_forget_n72 rfl rfl rfl (hO.2 _ (List.mem_of_getElem? (i := 23) rfl)) (hts (.initialized RX0) (by decide +kernel)) (by decide +kernel) ⟨Nat.le_of_ble_eq_true rfl, Nat.le_of_ble_eq_true rfl⟩, hts (.instanceMethod yX0_forget) (by decide +kernel), hts (.selects RX0 yX0_forget yX0_forget) (by decide +kernel)⟩ (hs_recv0 hO hP.2.2.2.2.1) hP.2.2.2.2.1 hO rfl hl.1 (Nat.le_of_ble_eq_true rfl) dX6_load_32 ⟨Nat.le_of_ble_eq_true rfl, Nat.le_of_ble_eq_true rfl⟩) hS (fun q h => hA q (by simp only [blk, blk2, blkh] at *; omega)) (fun H locs hP1 hz hk hS => ?_)
    have hP : Cb G b (yH (yN X (h_X4_makeNew (xN X))) (h_X0_forget (xH (yN X (h_X4_makeNew (xN X)))))) H := cb_hist hP hP1 hk
    refine lv_aload_n hx hb dX6_load_35 rfl (lv_at hl 0 rfl) ?_
    refine va_get (D := G.1) (ci := 4) (v := .ref (b + 149)) (C := RX6) (T := TX6) (N := 5) hx hb hts hin6 hown hO.1 hP.1 0 rfl rfl 4 (by decide) hf_36 (fun _ h9 => h9) rfl dX6_load_36 ?_
    refine cl_mv (rVN (As := []) (rest := []) ⟨hx, hb, hml, hown, hts⟩ (c_X1_empty l G (b + 149) (xS (yH (yN X (h_X4_makeNew (xN X))) (h_X0_forget (xH (yN X (h_X4_makeNew (xN X)))))))) ⟨va_cnB 0 hts gX6_load_X1_empty_n75 rfl rfl rfl (hO.2 _ (List.mem_of_getElem? (i := 24) rfl)) (hts (.initialized RX1) (by decide +kernel)) (by decide +kernel) ⟨Nat.le_of_ble_eq_true rfl, Nat.le_of_ble_eq_true rfl⟩, hts (.instanceMethod yX1_empty) (by decide +kernel), hts (.selects RX1 yX1_empty yX1_empty) (by decide +kernel)⟩ (sv_recv0 hO hP.2.2.2.2.2) hP.2.2.2.2.2 hO rfl hl.1 (Nat.le_of_ble_eq_true rfl) dX6_load_39 ⟨Nat.le_of_ble_eq_true rfl, Nat.le_of_ble_eq_true rfl⟩) hS (fun q h => hA q (by simp only [blk, blk2, blkh] at *; omega)) (fun H locs hP1 hz hk hS => ?_)
    have hP : Cb G b (yS (yH (yN X (h_X4_makeNew (xN X))) (h_X0_forget (xH (yN X (h_X4_makeNew (xN X)))))) (h_X1_empty (xS (yH (yN X (h_X4_makeNew (xN X))) (h_X0_forget (xH (yN X (h_X4_makeNew (xN X))))))))) H := cb_slot hP hP1 hk
    refine lv_iconst (v := 0) hx hb dX6_load_42 (by decide) ?_
    refine lv_istore_n (lv' := [(1, .int 0), (0, .ref b)]) hx hb dX6_load_43 rfl hl (by decide) rfl (fun ls hl => ?_)
    refine lv_iconst (v := 1) hx hb dX6_load_44 (by decide) ?_
    refine lv_istore_n (lv' := [(2, .int 1), (1, .int 0), (0, .ref b)]) hx hb dX6_load_45 rfl hl (by decide) rfl (fun ls hl => ?_)
    refine lv_iconst (v := 0) hx hb dX6_load_46 (by decide) ?_
    refine lv_istore_n (lv' := [(3, .int 0), (2, .int 1), (1, .int 0), (0, .ref b)]) hx hb dX6_load_47 rfl hl (by decide) rfl (fun ls hl => ?_)
    have hE_7 : h_X6_load X = lp_xLoad (120 + 1) 0 0 1 (yS (yH (yN X (h_X4_makeNew (xN X))) (h_X0_forget (xH (yN X (h_X4_makeNew (xN X)))))) (h_X1_empty (xS (yH (yN X (h_X4_makeNew (xN X))) (h_X0_forget (xH (yN X (h_X4_makeNew (xN X))))))))) := (by rw [h_X6_load, if_pos c_6])
    exact loop48 (120 + 1) 0 0 1 (yS (yH (yN X (h_X4_makeNew (xN X))) (h_X0_forget (xH (yN X (h_X4_makeNew (xN X)))))) (h_X1_empty (xS (yH (yN X (h_X4_makeNew (xN X))) (h_X0_forget (xH (yN X (h_X4_makeNew (xN X))))))))) (Nat.zero_le _) (by omega) hE_7 _ _ _ hP hS (lv_sub hl [3, 2, 1, 0] rfl)
  · have hE : h_X6_load X = .inl "java/lang/IllegalStateException" := (by rw [h_X6_load, if_neg c_6])
    obtain ⟨sa, hsa⟩ := hTh.2.2.2 8 _ rfl
    exact vx_throwS (names := ["java/lang/RuntimeException", "java/lang/Exception"]) (sa := sa) hx hb hst hown (by decide +kernel) (by decide +kernel) (hts (.classLink RX6 51 "java/lang/IllegalStateException") (by decide +kernel)) (hts (.initialized "java/lang/IllegalStateException") (by decide +kernel)) hsa (vx_hat (fun w h => hts w (List.mem_cons_of_mem _ (List.mem_append_right _ h))) thr_sub55 hTh.w) thr_good55 hTh.2.1 hTh.2.2.1 hS (by rw [hml]; exact hl.1) dX6_load_11 dX6_load_14 dX6_load_15 dX6_load_17 dX6_load_20 (fun x hx => (hno x hx).elim) (Nat.le_of_ble_eq_true rfl) (Nat.le_of_ble_eq_true rfl) (Nat.le_of_ble_eq_true rfl) (Nat.le_of_ble_eq_true rfl) hlocks (fun t _ h1 h2 => ⟨hE, h1, fun q hq _ => h2 q hq⟩) hS.2.2 (Nat.le_of_ble_eq_true rfl) (Nat.le_of_ble_eq_true rfl)

def lp_xGapIn (len : Int32) : Nat → Nat → Cx → String ⊕ (Int32 × Cx)
  | 0, _, X2 => .inr (-1, X2)
  | n + 1, k, X2 => if 100 < (nI k) then .inr ((-1), X2) else
    if (f_X4_reasonAgainst (xR X2) len) = 0 then .inr (nI k, X2) else
    lp_xGapIn len n (k + 1) (yR X2 ((h_X4_passMinutes (xR X2) 1).2))
def h_X6_gapIn (X : Cx) (len : Int32) : String ⊕ (Int32 × Cx) :=
  if (f_X6_requireLength len) = 0 then .inl "java/lang/IllegalArgumentException" else
  lp_xGapIn len 102 0 (yR X (xN X))
set_option maxHeartbeats 4000000 in
set_option maxRecDepth 100000 in
theorem c_X6_gapIn (l : Launch) (G : GG) (b : Nat) (X : Cx) (len : Int32) (hst : l.stackTraces = false) : vx_Met l yX6_gapIn wsX6_gapIn ({ frames := 9, cells := 1, slots := 6, locals := 140 }) (PcT G (blk b (b + 170)) [.ref b, .int len] (Cb G b X)) (QX (h_X6_gapIn X len) (Cb G b) (blk b (b + 170))) (XX (h_X6_gapIn X len)) 1 6 (blk b (b + 170)) := by
  refine metX (cc := cX6_gapIn) (maxL := 3) (ret := (some .int)) (by decide) rfl ?_
  intro p e s m below meth cd hx hb hr hml hown hts hlocks hno hP hO hTh
  have hin6 : ∀ w ∈ u_ws RX6 TX6 5, w ∈ wsX6_gapIn := by decide +kernel
  have hf_19 := hts (.fieldLink RX6 19 "CurbCars" "now" "LCurbCars$Street;") (by decide +kernel)
  have hf_23 := hts (.fieldLink RX6 23 "CurbCars" "trial" "LCurbCars$Street;") (by decide +kernel)
  have hA : ∀ q, (blk b (b + 170)) q → (blk b (b + 170)) q := fun _ h => h
  have hS : va_S (blk b (b + 170)) s.heap s.heap [] := va_S.rf
  have hl := lv_entry ([.ref b, .int len]) (n := 3) (Nat.le_of_ble_eq_true rfl)
  rw [lg_entry_eq]
  generalize (lg_sl ([.ref b, .int len]) ++ List.replicate (3 - (lg_sl ([.ref b, .int len])).length) Slot.unset).toArray = ls at hl ⊢
  have hl : lv_has ls 3 [(0, .ref b), (1, .int len)] := hl
  have loop17 : ∀ (n : Nat) (k : Nat) (X2 : Cx), k ≤ 101 → k + n = 102 → h_X6_gapIn X len = lp_xGapIn len n k X2 → ∀ (H : Heap) (locs : List Loc) (ls : Array Slot), Cb G b X2 H → va_S (blk b (b + 170)) s.heap H locs → lv_has ls 3 [(0, .ref b), (1, .int len), (2, .int (nI k))] → W p l e (headSpec wsX6_gapIn ({ frames := 9, cells := 1, slots := 6, locals := 140 } : Room)).room s m ([.ref b, .int len] : List Value).toArray below meth cd H locs 0 0 (vx_MQ below (QX (h_X6_gapIn X len) (Cb G b) (blk b (b + 170))) (XX (h_X6_gapIn X len)) ([.ref b, .int len] : List Value).toArray s 1 6 (blk b (b + 170))) (F0 m 17 ls []) := by
    intro n
    induction n with
    | zero =>
      intro k X2 hk hn hR H locs ls hP hS hl
      exact absurd hn (by omega)
    | succ n ih =>
      intro k X2 hk hn hR H locs ls hP hS hl
      refine lv_iload_n hx hb dX6_gapIn_17 rfl (lv_at hl 2 rfl) ?_
      refine lv_bipush (v := 100) hx hb dX6_gapIn_18 (by decide) ?_
      refine lv_icmp_gt (tgt := 51) hx hb dX6_gapIn_20 (by decide) (fun c_1 => ?_) (fun c_1 => ?_)
      · refine lv_iconst (v := -1) hx hb dX6_gapIn_51 (by decide) ?_
        have hE : h_X6_gapIn X len = .inr ((-1), X2) := (hR.trans (by rw [lp_xGapIn, if_pos c_1]))
        exact W.widen (k := 1) (n := 6) (Nat.le_of_ble_eq_true rfl) (Nat.le_of_ble_eq_true rfl) (vx_ret (W.iret hx hb hr (fun t ht hW => ⟨_, _, hE, rfl, by rw [ht]; exact hP, hS.F ht⟩) hS.2.2 dX6_gapIn_52))
      · refine lv_aload_n hx hb dX6_gapIn_23 rfl (lv_at hl 0 rfl) ?_
        refine va_get (D := G.1) (ci := 4) (v := .ref (b + 12)) (C := RX6) (T := TX6) (N := 5) hx hb hts hin6 hown hO.1 hP.1 0 rfl rfl 2 (by decide) hf_23 (fun _ h9 => h9) rfl dX6_gapIn_24 ?_
        refine lv_iload_n hx hb dX6_gapIn_27 rfl (lv_at hl 1 rfl) ?_
        refine cl_pi (rVN (As := [.int len]) (rest := []) ⟨hx, hb, hml, hown, hts⟩ (c_X4_reasonAgainst l G (b + 12) (xR X2) len) ⟨va_cnB 1 hts gX6_gapIn_X4_reasonAgainst_n244 rfl rfl rfl (hO.2 _ (List.mem_of_getElem? (i := 65) rfl)) (hts (.initialized RX4) (by decide +kernel)) (by decide +kernel) ⟨Nat.le_of_ble_eq_true rfl, Nat.le_of_ble_eq_true rfl⟩, hts (.instanceMethod yX4_reasonAgainst) (by decide +kernel), hts (.selects RX4 yX4_reasonAgainst yX4_reasonAgainst) (by decide +kernel)⟩ (st_recv hO hP.2.2.2.1) hP.2.2.2.1 hO rfl hl.1 (Nat.le_of_ble_eq_true rfl) dX6_gapIn_28 ⟨Nat.le_of_ble_eq_true rfl, Nat.le_of_ble_eq_true rfl⟩) ?_
        refine lv_if_ne (tgt := 36) hx hb dX6_gapIn_31 (by decide) (fun c_2 => ?_) (fun c_2 => ?_)
        · refine lv_aload_n hx hb dX6_gapIn_36 rfl (lv_at hl 0 rfl) ?_
          refine va_get (D := G.1) (ci := 4) (v := .ref (b + 12)) (C := RX6) (T := TX6) (N := 5) hx hb hts hin6 hown hO.1 hP.1 0 rfl rfl 2 (by decide) hf_23 (fun _ h9 => h9) rfl dX6_gapIn_37 ?_
          refine lv_iconst (v := 1) hx hb dX6_gapIn_40 (by decide) ?_
          refine cl_mi (rVN (As := [.int 1]) (rest := []) ⟨hx, hb, hml, hown, hts⟩ (c_X4_passMinutes l G (b + 12) (xR X2) 1) ⟨va_cnB 1 hts gX6_gapIn_X4_passMinutes_n224 rfl rfl rfl (hO.2 _ (List.mem_of_getElem? (i := 61) rfl)) (hts (.initialized RX4) (by decide +kernel)) (by decide +kernel) ⟨Nat.le_of_ble_eq_true rfl, Nat.le_of_ble_eq_true rfl⟩, hts (.instanceMethod yX4_passMinutes) (by decide +kernel), hts (.selects RX4 yX4_passMinutes yX4_passMinutes) (by decide +kernel)⟩ (st_recv hO hP.2.2.2.1) hP.2.2.2.1 hO rfl hl.1 (Nat.le_of_ble_eq_true rfl) dX6_gapIn_41 ⟨Nat.le_of_ble_eq_true rfl, Nat.le_of_ble_eq_true rfl⟩) hS (fun q h => hA q (by simp only [blk, blk2, blkh] at *; omega)) (fun H locs hP1 hz hk hS => ?_)
          have hP : Cb G b (yR X2 ((h_X4_passMinutes (xR X2) 1).2)) H := cb_trial hP hP1 hk
          refine lv_pop hx hb dX6_gapIn_44 rfl ?_
          refine lv_iinc (v := nI (k + 1)) (lv' := [(2, .int (nI (k + 1))), (0, .ref b), (1, .int len)]) hx hb dX6_gapIn_45 hl (k := 2) rfl (nI_1 _) (by decide) rfl (fun ls hl => ?_)
          refine lv_goto (tgt := 17) hx hb dX6_gapIn_48 (by decide) ?_
          have hE_3 : h_X6_gapIn X len = lp_xGapIn len n (k + 1) (yR X2 ((h_X4_passMinutes (xR X2) 1).2)) := (hR.trans (by rw [lp_xGapIn, if_neg c_1, if_neg c_2]))
          exact ih (k + 1) (yR X2 ((h_X4_passMinutes (xR X2) 1).2)) (by have h9 := le100 (by assumption) (by omega); omega) (by omega) hE_3 _ _ _ hP hS (lv_sub hl [1, 2, 0] rfl)
        · refine lv_iload_n hx hb dX6_gapIn_34 rfl (lv_at hl 2 rfl) ?_
          have hE : h_X6_gapIn X len = .inr (nI k, X2) := (hR.trans (by rw [lp_xGapIn, if_neg c_1, if_pos c_2]))
          exact W.widen (k := 1) (n := 6) (Nat.le_of_ble_eq_true rfl) (Nat.le_of_ble_eq_true rfl) (vx_ret (W.iret hx hb hr (fun t ht hW => ⟨_, _, hE, rfl, by rw [ht]; exact hP, hS.F ht⟩) hS.2.2 dX6_gapIn_35))
  refine lv_iload_n hx hb dX6_gapIn_0 rfl (lv_at hl 1 rfl) ?_
  by_cases c_4 : (f_X6_requireLength len) = 0
  · have hE : h_X6_gapIn X len = .inl "java/lang/IllegalArgumentException" := (by rw [h_X6_gapIn, if_pos c_4])
    exact cl_tx (xZ (As := [.int len]) (rest := []) ⟨hx, hb, hml, hown, hts⟩ (c_X6_requireLength_t l G (blk b (b + 170)) len hst c_4) (va_cwS 1 hts gX6_gapIn_X6_requireLength rfl rfl rfl (by decide +kernel) ⟨Nat.le_of_ble_eq_true rfl, Nat.le_of_ble_eq_true rfl⟩) trivial hO (fun U hU hW => hTh.warm hW hU) rfl hl.1 (Nat.le_of_ble_eq_true rfl) dX6_gapIn_1 ⟨Nat.le_of_ble_eq_true rfl, Nat.le_of_ble_eq_true rfl⟩) (fun q h => h) hno hlocks (Nat.le_of_ble_eq_true rfl) (Nat.le_of_ble_eq_true rfl) (fun t h => ⟨hE, h⟩)
  · refine cl_pv (rS (As := [.int len]) (rest := []) ⟨hx, hb, hml, hown, hts⟩ (c_X6_requireLength_n l G len c_4) (va_cwS 1 hts gX6_gapIn_X6_requireLength rfl rfl rfl (by decide +kernel) ⟨Nat.le_of_ble_eq_true rfl, Nat.le_of_ble_eq_true rfl⟩) trivial hO rfl hl.1 (Nat.le_of_ble_eq_true rfl) dX6_gapIn_1 ⟨Nat.le_of_ble_eq_true rfl, Nat.le_of_ble_eq_true rfl⟩) ?_
    refine lv_aload_n hx hb dX6_gapIn_4 rfl (lv_at hl 0 rfl) ?_
    refine va_get (D := G.1) (ci := 4) (v := .ref (b + 12)) (C := RX6) (T := TX6) (N := 5) hx hb hts hin6 hown hO.1 hP.1 0 rfl rfl 2 (by decide) hf_23 (fun _ h9 => h9) rfl dX6_gapIn_5 ?_
    refine lv_aload_n hx hb dX6_gapIn_8 rfl (lv_at hl 0 rfl) ?_
    refine va_get (D := G.1) (ci := 4) (v := .ref (b + 3)) (C := RX6) (T := TX6) (N := 5) hx hb hts hin6 hown hO.1 hP.1 0 rfl rfl 1 (by decide) hf_19 (fun _ h9 => h9) rfl dX6_gapIn_9 ?_
    refine cl_mv (rVN (As := [.ref (b + 3)]) (rest := []) ⟨hx, hb, hml, hown, hts⟩ (c_X4_copyFrom l G (b + 12) (b + 3) (xR X) (xN X) (by omega)) ⟨va_cnB 1 hts gX6_gapIn_X4_copyFrom_n253 rfl rfl rfl (hO.2 _ (List.mem_of_getElem? (i := 68) rfl)) (hts (.initialized RX4) (by decide +kernel)) (by decide +kernel) ⟨Nat.le_of_ble_eq_true rfl, Nat.le_of_ble_eq_true rfl⟩, hts (.instanceMethod yX4_copyFrom) (by decide +kernel), hts (.selects RX4 yX4_copyFrom yX4_copyFrom) (by decide +kernel)⟩ (st_recv hO hP.2.2.2.1) (P_app.mpr ⟨hP.2.2.2.1, hP.2.2.1⟩) hO rfl hl.1 (Nat.le_of_ble_eq_true rfl) dX6_gapIn_12 ⟨Nat.le_of_ble_eq_true rfl, Nat.le_of_ble_eq_true rfl⟩) hS (fun q h => hA q (by simp only [blk, blk2, blkh] at *; omega)) (fun H locs hP1 hz hk hS => ?_)
    have hP : Cb G b (yR X (xN X)) H := cb_copy hP hP1 hk
    refine lv_iconst (v := 0) hx hb dX6_gapIn_15 (by decide) ?_
    refine lv_istore_n (lv' := [(2, .int 0), (0, .ref b), (1, .int len)]) hx hb dX6_gapIn_16 rfl hl (by decide) rfl (fun ls hl => ?_)
    have hE_5 : h_X6_gapIn X len = lp_xGapIn len 102 0 (yR X (xN X)) := (by rw [h_X6_gapIn, if_neg c_4])
    exact loop17 102 0 (yR X (xN X)) (Nat.zero_le _) (by omega) hE_5 _ _ _ hP hS (lv_sub hl [1, 2, 0] rfl)

def lp_xScript (w : Int32) (sc : Int64) : Nat → Int64 → Nat → Cx → String ⊕ (Int32 × Cx)
  | 0, _, _, X2 => .inr (-1, X2)
  | n + 1, al, k, X2 => if w ≤ (nI k) then .inr ((-1), X2) else
    if (lg_cmp al 0) ≤ 0 then .inr ((-1), X2) else
    if ((h_X2_succeeds (xR X2) (((sc / al) - (sc / al) / 1000000 * 1000000).toInt32)).1) = 0 then .inr (nI k, (yR X2 ((h_X2_succeeds (xR X2) (((sc / al) - (sc / al) / 1000000 * 1000000).toInt32)).2))) else
    lp_xScript w sc n (al / 1000000) (k + 1) (yR X2 ((h_X2_succeeds (xR X2) (((sc / al) - (sc / al) / 1000000 * 1000000).toInt32)).2))
def lp_xUnit (X : Cx) (w : Int32) (sc : Int64) : Nat → Int64 → Nat → String ⊕ (Int32 × Cx)
  | 0, _, _ => .inr (0, X)
  | n + 1, un, k => if w ≤ (nI k) then (if (lg_cmp sc 0) < 0 then .inl "java/lang/IllegalArgumentException" else
      if (lg_cmp (sc / 1000000) un) < 0 then lp_xScript w sc 4 un 0 (yR X (xN X)) else
      .inl "java/lang/IllegalArgumentException") else
    lp_xUnit X w sc n (un * 1000000) (k + 1)
def h_X6_runScript (X : Cx) (w : Int32) (sc : Int64) : String ⊕ (Int32 × Cx) :=
  if w < 1 then .inl "java/lang/IllegalArgumentException" else
  if w ≤ 3 then lp_xUnit X w sc 3 1 1 else
  .inl "java/lang/IllegalArgumentException"
set_option maxHeartbeats 4000000 in
set_option maxRecDepth 100000 in
theorem c_X6_runScript (l : Launch) (G : GG) (b : Nat) (X : Cx) (w : Int32) (sc : Int64) (hst : l.stackTraces = false) : vx_Met l yX6_runScript wsX6_runScript ({ frames := 8, cells := 1, slots := 6, locals := 143 }) (PcT G (blk b (b + 170)) [.ref b, .int w, .long sc] (Cb G b X)) (QX (h_X6_runScript X w sc) (Cb G b) (blk b (b + 170))) (XX (h_X6_runScript X w sc)) 1 6 (blk b (b + 170)) := by
  refine metX (cc := cX6_runScript) (maxL := 7) (ret := (some .int)) (by decide) rfl ?_
  intro p e s m below meth cd hx hb hr hml hown hts hlocks hno hP hO hTh
  have hin6 : ∀ w ∈ u_ws RX6 TX6 5, w ∈ wsX6_runScript := by decide +kernel
  have hf_19 := hts (.fieldLink RX6 19 "CurbCars" "now" "LCurbCars$Street;") (by decide +kernel)
  have hf_23 := hts (.fieldLink RX6 23 "CurbCars" "trial" "LCurbCars$Street;") (by decide +kernel)
  have hA : ∀ q, (blk b (b + 170)) q → (blk b (b + 170)) q := fun _ h => h
  have hS : va_S (blk b (b + 170)) s.heap s.heap [] := va_S.rf
  have hl := lv_entry ([.ref b, .int w, .long sc]) (n := 7) (Nat.le_of_ble_eq_true rfl)
  rw [lg_entry_eq]
  generalize (lg_sl ([.ref b, .int w, .long sc]) ++ List.replicate (7 - (lg_sl ([.ref b, .int w, .long sc])).length) Slot.unset).toArray = ls at hl ⊢
  have hl : lv_has ls 7 [(0, .ref b), (1, .int w), (2, .long sc)] := hl
  have loop89 : ∀ (n : Nat) (al : Int64) (k : Nat) (X2 : Cx), k ≤ 3 → k + n = 4 → w ≤ 3 → h_X6_runScript X w sc = lp_xScript w sc n al k X2 → ∀ (H : Heap) (locs : List Loc) (ls : Array Slot), Cb G b X2 H → va_S (blk b (b + 170)) s.heap H locs → lv_has ls 7 [(0, .ref b), (1, .int w), (2, .long sc), (4, .long al), (6, .int (nI k))] → W p l e (headSpec wsX6_runScript ({ frames := 8, cells := 1, slots := 6, locals := 143 } : Room)).room s m ([.ref b, .int w, .long sc] : List Value).toArray below meth cd H locs 0 0 (vx_MQ below (QX (h_X6_runScript X w sc) (Cb G b) (blk b (b + 170))) (XX (h_X6_runScript X w sc)) ([.ref b, .int w, .long sc] : List Value).toArray s 1 6 (blk b (b + 170))) (F0 m 89 ls []) := by
    intro n
    induction n with
    | zero =>
      intro al k X2 hk hn hw3 hR H locs ls hP hS hl
      exact absurd hn (by omega)
    | succ n ih =>
      intro al k X2 hk hn hw3 hR H locs ls hP hS hl
      refine lv_iload hx hb dX6_runScript_89 (lv_at hl 4 rfl) ?_
      refine lv_iload_n hx hb dX6_runScript_91 rfl (lv_at hl 1 rfl) ?_
      refine lv_icmp_ge (tgt := 138) hx hb dX6_runScript_92 (by decide) (fun c_1 => ?_) (fun c_1 => ?_)
      · refine lv_iconst (v := -1) hx hb dX6_runScript_138 (by decide) ?_
        have hE : h_X6_runScript X w sc = .inr ((-1), X2) := (hR.trans (by rw [lp_xScript, if_pos c_1]))
        exact W.widen (k := 1) (n := 6) (Nat.le_of_ble_eq_true rfl) (Nat.le_of_ble_eq_true rfl) (vx_ret (W.iret hx hb hr (fun t ht hW => ⟨_, _, hE, rfl, by rw [ht]; exact hP, hS.F ht⟩) hS.2.2 dX6_runScript_139))
      · refine lv_lload hx hb dX6_runScript_95 (lv_at hl 3 rfl) ?_
        refine lv_lconst (v := 0) hx hb dX6_runScript_97 (by decide) ?_
        refine W.lcmp hx hb dX6_runScript_98 ?_
        refine lv_if_le (tgt := 138) hx hb dX6_runScript_99 (by decide) (fun c_2 => ?_) (fun c_2 => ?_)
        · refine lv_iconst (v := -1) hx hb dX6_runScript_138 (by decide) ?_
          have hE : h_X6_runScript X w sc = .inr ((-1), X2) := (hR.trans (by rw [lp_xScript, if_neg c_1, if_pos c_2]))
          exact W.widen (k := 1) (n := 6) (Nat.le_of_ble_eq_true rfl) (Nat.le_of_ble_eq_true rfl) (vx_ret (W.iret hx hb hr (fun t ht hW => ⟨_, _, hE, rfl, by rw [ht]; exact hP, hS.F ht⟩) hS.2.2 dX6_runScript_139))
        · refine lv_lload_n hx hb dX6_runScript_102 rfl (lv_at hl 2 rfl) ?_
          refine lv_lload hx hb dX6_runScript_103 (lv_at hl 3 rfl) ?_
          refine lv_ldiv hx hb dX6_runScript_105 (cmp_ne (by assumption)) ?_
          refine lv_ldc2 (v := 1000000) hx hb hown (hts (.constantLong RX6 274 (1000000)) (by decide +kernel)) dX6_runScript_106 ?_
          refine lv_lrem hx hb dX6_runScript_109 (by decide) ?_
          refine lv_l2i (v := ((sc / al) - (sc / al) / 1000000 * 1000000).toInt32) hx hb dX6_runScript_110 rfl ?_
          refine lv_aload_n hx hb dX6_runScript_111 rfl (lv_at hl 0 rfl) ?_
          refine va_get (D := G.1) (ci := 4) (v := .ref (b + 12)) (C := RX6) (T := TX6) (N := 5) hx hb hts hin6 hown hO.1 hP.1 0 rfl rfl 2 (by decide) hf_23 (fun _ h9 => h9) rfl dX6_runScript_112 ?_
          refine cl_mi (rSN (As := [.int (((sc / al) - (sc / al) / 1000000 * 1000000).toInt32), .ref (b + 12)]) (rest := []) ⟨hx, hb, hml, hown, hts⟩ (c_X2_succeeds l G (b + 12) (xR X2) (((sc / al) - (sc / al) / 1000000 * 1000000).toInt32)) ⟨va_cnB 2 hts gX6_runScript_X2_succeeds_n278 rfl rfl rfl (hO.2 _ (List.mem_of_getElem? (i := 79) rfl)) (hts (.initialized RX2) (by decide +kernel)) (by decide +kernel) ⟨Nat.le_of_ble_eq_true rfl, Nat.le_of_ble_eq_true rfl⟩, hts (.static yX2_succeeds) (by decide +kernel), trivial⟩ hP.2.2.2.1 hO rfl hl.1 (Nat.le_of_ble_eq_true rfl) dX6_runScript_115 ⟨Nat.le_of_ble_eq_true rfl, Nat.le_of_ble_eq_true rfl⟩) hS (fun q h => hA q (by simp only [blk, blk2, blkh] at *; omega)) (fun H locs hP1 hz hk hS => ?_)
          have hP : Cb G b (yR X2 ((h_X2_succeeds (xR X2) (((sc / al) - (sc / al) / 1000000 * 1000000).toInt32)).2)) H := cb_trial hP hP1 hk
          refine lv_if_ne (tgt := 124) hx hb dX6_runScript_118 (by decide) (fun c_3 => ?_) (fun c_3 => ?_)
          · refine lv_lload hx hb dX6_runScript_124 (lv_at hl 3 rfl) ?_
            refine lv_ldc2 (v := 1000000) hx hb hown (hts (.constantLong RX6 274 (1000000)) (by decide +kernel)) dX6_runScript_126 ?_
            refine lv_ldiv hx hb dX6_runScript_129 (by decide) ?_
            refine lv_lstore (lv' := [(4, .long (al / 1000000)), (0, .ref b), (1, .int w), (2, .long sc), (6, .int (nI k))]) hx hb dX6_runScript_130 hl (by decide) rfl (fun ls hl => ?_)
            refine lv_iinc (v := nI (k + 1)) (lv' := [(6, .int (nI (k + 1))), (4, .long (al / 1000000)), (0, .ref b), (1, .int w), (2, .long sc)]) hx hb dX6_runScript_132 hl (k := 4) rfl (nI_1 _) (by decide) rfl (fun ls hl => ?_)
            refine lv_goto (tgt := 89) hx hb dX6_runScript_135 (by decide) ?_
            have hE_4 : h_X6_runScript X w sc = lp_xScript w sc n (al / 1000000) (k + 1) (yR X2 ((h_X2_succeeds (xR X2) (((sc / al) - (sc / al) / 1000000 * 1000000).toInt32)).2)) := (hR.trans (by rw [lp_xScript, if_neg c_1, if_neg c_2, if_neg c_3]))
            exact ih (al / 1000000) (k + 1) (yR X2 ((h_X2_succeeds (xR X2) (((sc / al) - (sc / al) / 1000000 * 1000000).toInt32)).2)) (by have h9 := lt3 hw3 (by assumption) (by omega); omega) (by omega) hw3 hE_4 _ _ _ hP hS (lv_sub hl [2, 3, 4, 1, 0] rfl)
          · refine lv_iload hx hb dX6_runScript_121 (lv_at hl 4 rfl) ?_
            have hE : h_X6_runScript X w sc = .inr (nI k, (yR X2 ((h_X2_succeeds (xR X2) (((sc / al) - (sc / al) / 1000000 * 1000000).toInt32)).2))) := (hR.trans (by rw [lp_xScript, if_neg c_1, if_neg c_2, if_pos c_3]))
            exact W.widen (k := 1) (n := 6) (Nat.le_of_ble_eq_true rfl) (Nat.le_of_ble_eq_true rfl) (vx_ret (W.iret hx hb hr (fun t ht hW => ⟨_, _, hE, rfl, by rw [ht]; exact hP, hS.F ht⟩) hS.2.2 dX6_runScript_123))
  have loop27 : ∀ (n : Nat) (un : Int64) (k : Nat) , k ≤ 3 → k + n = 4 → w ≤ 3 → h_X6_runScript X w sc = lp_xUnit X w sc n un k → ∀ (ls : Array Slot), lv_has ls 7 [(0, .ref b), (1, .int w), (2, .long sc), (4, .long un), (6, .int (nI k))] → W p l e (headSpec wsX6_runScript ({ frames := 8, cells := 1, slots := 6, locals := 143 } : Room)).room s m ([.ref b, .int w, .long sc] : List Value).toArray below meth cd s.heap [] 0 0 (vx_MQ below (QX (h_X6_runScript X w sc) (Cb G b) (blk b (b + 170))) (XX (h_X6_runScript X w sc)) ([.ref b, .int w, .long sc] : List Value).toArray s 1 6 (blk b (b + 170))) (F0 m 27 ls []) := by
    intro n
    induction n with
    | zero =>
      intro un k hk hn hw3 hR ls hl
      exact absurd hn (by omega)
    | succ n ih =>
      intro un k hk hn hw3 hR ls hl
      refine lv_iload hx hb dX6_runScript_27 (lv_at hl 4 rfl) ?_
      refine lv_iload_n hx hb dX6_runScript_29 rfl (lv_at hl 1 rfl) ?_
      refine lv_icmp_ge (tgt := 47) hx hb dX6_runScript_30 (by decide) (fun c_5 => ?_) (fun c_5 => ?_)
      · refine lv_lload_n hx hb dX6_runScript_47 rfl (lv_at hl 2 rfl) ?_
        refine lv_lconst (v := 0) hx hb dX6_runScript_48 (by decide) ?_
        refine W.lcmp hx hb dX6_runScript_49 ?_
        refine lv_if_lt (tgt := 64) hx hb dX6_runScript_50 (by decide) (fun c_6 => ?_) (fun c_6 => ?_)
        · have hE : h_X6_runScript X w sc = .inl "java/lang/IllegalArgumentException" := (hR.trans (by rw [lp_xUnit, if_pos c_5, if_pos c_6]))
          obtain ⟨sa, hsa⟩ := hTh.2.2.2 19 _ rfl
          exact vx_throwSW (names := ["java/lang/RuntimeException", "java/lang/Exception"]) (sa := sa) hx hb hst hown (by decide +kernel) (by decide +kernel) (hts (.classLink RX6 40 "java/lang/IllegalArgumentException") (by decide +kernel)) (hts (.initialized "java/lang/IllegalArgumentException") (by decide +kernel)) hsa (vx_hat (fun w h => hts w (List.mem_cons_of_mem _ (List.mem_append_right _ h))) thr_sub44 hTh.w) thr_good44 hTh.2.1 hTh.2.2.1 hS (by rw [hml]; exact hl.1) dX6_runScript_64 dX6_runScript_67 dX6_runScript_68 dX6_runScript_71 dX6_runScript_74 (fun x hx => (hno x hx).elim) (Nat.le_of_ble_eq_true rfl) (Nat.le_of_ble_eq_true rfl) (Nat.le_of_ble_eq_true rfl) (Nat.le_of_ble_eq_true rfl) hlocks (fun t _ h1 h2 => ⟨hE, h1, fun q hq _ => h2 q hq⟩) hS.2.2 (Nat.le_of_ble_eq_true rfl) (Nat.le_of_ble_eq_true rfl)
        · refine lv_lload_n hx hb dX6_runScript_53 rfl (lv_at hl 2 rfl) ?_
          refine lv_ldc2 (v := 1000000) hx hb hown (hts (.constantLong RX6 274 (1000000)) (by decide +kernel)) dX6_runScript_54 ?_
          refine lv_ldiv hx hb dX6_runScript_57 (by decide) ?_
          refine lv_lload hx hb dX6_runScript_58 (lv_at hl 3 rfl) ?_
          refine W.lcmp hx hb dX6_runScript_60 ?_
          refine lv_if_lt (tgt := 75) hx hb dX6_runScript_61 (by decide) (fun c_7 => ?_) (fun c_7 => ?_)
          · refine lv_aload_n hx hb dX6_runScript_75 rfl (lv_at hl 0 rfl) ?_
            refine va_get (D := G.1) (ci := 4) (v := .ref (b + 12)) (C := RX6) (T := TX6) (N := 5) hx hb hts hin6 hown hO.1 hP.1 0 rfl rfl 2 (by decide) hf_23 (fun _ h9 => h9) rfl dX6_runScript_76 ?_
            refine lv_aload_n hx hb dX6_runScript_79 rfl (lv_at hl 0 rfl) ?_
            refine va_get (D := G.1) (ci := 4) (v := .ref (b + 3)) (C := RX6) (T := TX6) (N := 5) hx hb hts hin6 hown hO.1 hP.1 0 rfl rfl 1 (by decide) hf_19 (fun _ h9 => h9) rfl dX6_runScript_80 ?_
            refine cl_mv (rVN (As := [.ref (b + 3)]) (rest := []) ⟨hx, hb, hml, hown, hts⟩ (c_X4_copyFrom l G (b + 12) (b + 3) (xR X) (xN X) (by omega)) ⟨va_cnB 1 hts gX6_runScript_X4_copyFrom_n253 rfl rfl rfl (hO.2 _ (List.mem_of_getElem? (i := 68) rfl)) (hts (.initialized RX4) (by decide +kernel)) (by decide +kernel) ⟨Nat.le_of_ble_eq_true rfl, Nat.le_of_ble_eq_true rfl⟩, hts (.instanceMethod yX4_copyFrom) (by decide +kernel), hts (.selects RX4 yX4_copyFrom yX4_copyFrom) (by decide +kernel)⟩ (st_recv hO hP.2.2.2.1) (P_app.mpr ⟨hP.2.2.2.1, hP.2.2.1⟩) hO rfl hl.1 (Nat.le_of_ble_eq_true rfl) dX6_runScript_83 ⟨Nat.le_of_ble_eq_true rfl, Nat.le_of_ble_eq_true rfl⟩) hS (fun q h => hA q (by simp only [blk, blk2, blkh] at *; omega)) (fun H locs hP1 hz hk hS => ?_)
            have hP : Cb G b (yR X (xN X)) H := cb_copy hP hP1 hk
            refine lv_iconst (v := 0) hx hb dX6_runScript_86 (by decide) ?_
            refine lv_istore (lv' := [(6, .int 0), (0, .ref b), (1, .int w), (2, .long sc), (4, .long un)]) hx hb dX6_runScript_87 hl (by decide) rfl (fun ls hl => ?_)
            have hE_8 : h_X6_runScript X w sc = lp_xScript w sc 4 un 0 (yR X (xN X)) := (hR.trans (by rw [lp_xUnit, if_pos c_5, if_neg c_6, if_pos c_7]))
            exact loop89 4 un 0 (yR X (xN X)) (Nat.zero_le _) (by omega) hw3 hE_8 _ _ _ hP hS (lv_sub hl [1, 2, 3, 4, 0] rfl)
          · have hE : h_X6_runScript X w sc = .inl "java/lang/IllegalArgumentException" := (hR.trans (by rw [lp_xUnit, if_pos c_5, if_neg c_6, if_neg c_7]))
            obtain ⟨sa, hsa⟩ := hTh.2.2.2 19 _ rfl
            exact vx_throwSW (names := ["java/lang/RuntimeException", "java/lang/Exception"]) (sa := sa) hx hb hst hown (by decide +kernel) (by decide +kernel) (hts (.classLink RX6 40 "java/lang/IllegalArgumentException") (by decide +kernel)) (hts (.initialized "java/lang/IllegalArgumentException") (by decide +kernel)) hsa (vx_hat (fun w h => hts w (List.mem_cons_of_mem _ (List.mem_append_right _ h))) thr_sub44 hTh.w) thr_good44 hTh.2.1 hTh.2.2.1 hS (by rw [hml]; exact hl.1) dX6_runScript_64 dX6_runScript_67 dX6_runScript_68 dX6_runScript_71 dX6_runScript_74 (fun x hx => (hno x hx).elim) (Nat.le_of_ble_eq_true rfl) (Nat.le_of_ble_eq_true rfl) (Nat.le_of_ble_eq_true rfl) (Nat.le_of_ble_eq_true rfl) hlocks (fun t _ h1 h2 => ⟨hE, h1, fun q hq _ => h2 q hq⟩) hS.2.2 (Nat.le_of_ble_eq_true rfl) (Nat.le_of_ble_eq_true rfl)
      · refine lv_lload hx hb dX6_runScript_33 (lv_at hl 3 rfl) ?_
        refine lv_ldc2 (v := 1000000) hx hb hown (hts (.constantLong RX6 274 (1000000)) (by decide +kernel)) dX6_runScript_35 ?_
        refine lv_lmul hx hb dX6_runScript_38 ?_
        refine lv_lstore (lv' := [(4, .long (un * 1000000)), (0, .ref b), (1, .int w), (2, .long sc), (6, .int (nI k))]) hx hb dX6_runScript_39 hl (by decide) rfl (fun ls hl => ?_)
        refine lv_iinc (v := nI (k + 1)) (lv' := [(6, .int (nI (k + 1))), (4, .long (un * 1000000)), (0, .ref b), (1, .int w), (2, .long sc)]) hx hb dX6_runScript_41 hl (k := 4) rfl (nI_1 _) (by decide) rfl (fun ls hl => ?_)
        refine lv_goto (tgt := 27) hx hb dX6_runScript_44 (by decide) ?_
        have hE_9 : h_X6_runScript X w sc = lp_xUnit X w sc n (un * 1000000) (k + 1) := (hR.trans (by rw [lp_xUnit, if_neg c_5]))
        exact ih (un * 1000000) (k + 1) (by have h9 := lt3 hw3 (by assumption) (by omega); omega) (by omega) hw3 hE_9 _ (lv_sub hl [2, 3, 4, 1, 0] rfl)
  refine lv_iload_n hx hb dX6_runScript_0 rfl (lv_at hl 1 rfl) ?_
  refine lv_iconst (v := 1) hx hb dX6_runScript_1 (by decide) ?_
  refine lv_icmp_lt (tgt := 10) hx hb dX6_runScript_2 (by decide) (fun c_10 => ?_) (fun c_10 => ?_)
  · have hE : h_X6_runScript X w sc = .inl "java/lang/IllegalArgumentException" := (by rw [h_X6_runScript, if_pos c_10])
    obtain ⟨sa, hsa⟩ := hTh.2.2.2 18 _ rfl
    exact vx_throwSW (names := ["java/lang/RuntimeException", "java/lang/Exception"]) (sa := sa) hx hb hst hown (by decide +kernel) (by decide +kernel) (hts (.classLink RX6 40 "java/lang/IllegalArgumentException") (by decide +kernel)) (hts (.initialized "java/lang/IllegalArgumentException") (by decide +kernel)) hsa (vx_hat (fun w h => hts w (List.mem_cons_of_mem _ (List.mem_append_right _ h))) thr_sub44 hTh.w) thr_good44 hTh.2.1 hTh.2.2.1 hS (by rw [hml]; exact hl.1) dX6_runScript_10 dX6_runScript_13 dX6_runScript_14 dX6_runScript_17 dX6_runScript_20 (fun x hx => (hno x hx).elim) (Nat.le_of_ble_eq_true rfl) (Nat.le_of_ble_eq_true rfl) (Nat.le_of_ble_eq_true rfl) (Nat.le_of_ble_eq_true rfl) hlocks (fun t _ h1 h2 => ⟨hE, h1, fun q hq _ => h2 q hq⟩) hS.2.2 (Nat.le_of_ble_eq_true rfl) (Nat.le_of_ble_eq_true rfl)
  · refine lv_iload_n hx hb dX6_runScript_5 rfl (lv_at hl 1 rfl) ?_
    refine lv_iconst (v := 3) hx hb dX6_runScript_6 (by decide) ?_
    refine lv_icmp_le (tgt := 21) hx hb dX6_runScript_7 (by decide) (fun c_11 => ?_) (fun c_11 => ?_)
    · refine lv_lconst (v := 1) hx hb dX6_runScript_21 (by decide) ?_
      refine lv_lstore (lv' := [(4, .long 1), (0, .ref b), (1, .int w), (2, .long sc)]) hx hb dX6_runScript_22 hl (by decide) rfl (fun ls hl => ?_)
      refine lv_iconst (v := 1) hx hb dX6_runScript_24 (by decide) ?_
      refine lv_istore (lv' := [(6, .int 1), (4, .long 1), (0, .ref b), (1, .int w), (2, .long sc)]) hx hb dX6_runScript_25 hl (by decide) rfl (fun ls hl => ?_)
      have hE_12 : h_X6_runScript X w sc = lp_xUnit X w sc 3 1 1 := (by rw [h_X6_runScript, if_neg c_10, if_pos c_11])
      exact loop27 3 1 1 (by omega) (by omega) (by assumption) hE_12 _ (lv_sub hl [2, 3, 4, 1, 0] rfl)
    · have hE : h_X6_runScript X w sc = .inl "java/lang/IllegalArgumentException" := (by rw [h_X6_runScript, if_neg c_10, if_neg c_11])
      obtain ⟨sa, hsa⟩ := hTh.2.2.2 18 _ rfl
      exact vx_throwSW (names := ["java/lang/RuntimeException", "java/lang/Exception"]) (sa := sa) hx hb hst hown (by decide +kernel) (by decide +kernel) (hts (.classLink RX6 40 "java/lang/IllegalArgumentException") (by decide +kernel)) (hts (.initialized "java/lang/IllegalArgumentException") (by decide +kernel)) hsa (vx_hat (fun w h => hts w (List.mem_cons_of_mem _ (List.mem_append_right _ h))) thr_sub44 hTh.w) thr_good44 hTh.2.1 hTh.2.2.1 hS (by rw [hml]; exact hl.1) dX6_runScript_10 dX6_runScript_13 dX6_runScript_14 dX6_runScript_17 dX6_runScript_20 (fun x hx => (hno x hx).elim) (Nat.le_of_ble_eq_true rfl) (Nat.le_of_ble_eq_true rfl) (Nat.le_of_ble_eq_true rfl) (Nat.le_of_ble_eq_true rfl) hlocks (fun t _ h1 h2 => ⟨hE, h1, fun q hq _ => h2 q hq⟩) hS.2.2 (Nat.le_of_ble_eq_true rfl) (Nat.le_of_ble_eq_true rfl)

def lp_xSim (w : Int32) : Nat → Nat → Int64 → Cx → String ⊕ (Int32 × Cx)
  | 0, _, _, X2 => .inr (0, X2)
  | n + 1, k, x, X2 => if w ≤ (nI k) then .inr (((10000 * (f_X4_carsInState (xR X2) 0)) + (100 * ((f_X4_carsInState (xR X2) 3) - (f_X4_carsInState (xN X2) 3)))) + (f_X4_cellsWith (xR X2) (-1)), X2) else
    lp_xSim w n (k + 1) (f_X6_nextChance x) (yR X2 (h_X3_doTurn (xR X2) ((jUshr (f_X6_nextChance x) 33).toInt32)))
def h_X6_simulate (X : Cx) (sd : Int64) (w : Int32) : String ⊕ (Int32 × Cx) :=
  if w < 1 then .inl "java/lang/IllegalArgumentException" else
  if w ≤ 60 then lp_xSim w (w.toNatClampNeg + 1) 0 sd (yR X (xN X)) else
  .inl "java/lang/IllegalArgumentException"
set_option maxHeartbeats 4000000 in
set_option maxRecDepth 100000 in
theorem c_X6_simulate (l : Launch) (G : GG) (b : Nat) (X : Cx) (sd : Int64) (w : Int32) (hst : l.stackTraces = false) : vx_Met l yX6_simulate wsX6_simulate ({ frames := 8, cells := 1, slots := 6, locals := 138 }) (PcT G (blk b (b + 170)) [.ref b, .long sd, .int w] (Cb G b X)) (QX (h_X6_simulate X sd w) (Cb G b) (blk b (b + 170))) (XX (h_X6_simulate X sd w)) 1 6 (blk b (b + 170)) := by
  refine metX (cc := cX6_simulate) (maxL := 7) (ret := (some .int)) (by decide) rfl ?_
  intro p e s m below meth cd hx hb hr hml hown hts hlocks hno hP hO hTh
  have hin6 : ∀ w ∈ u_ws RX6 TX6 5, w ∈ wsX6_simulate := by decide +kernel
  have hf_19 := hts (.fieldLink RX6 19 "CurbCars" "now" "LCurbCars$Street;") (by decide +kernel)
  have hf_23 := hts (.fieldLink RX6 23 "CurbCars" "trial" "LCurbCars$Street;") (by decide +kernel)
  have hA : ∀ q, (blk b (b + 170)) q → (blk b (b + 170)) q := fun _ h => h
  have hS : va_S (blk b (b + 170)) s.heap s.heap [] := va_S.rf
  have hl := lv_entry ([.ref b, .long sd, .int w]) (n := 7) (Nat.le_of_ble_eq_true rfl)
  rw [lg_entry_eq]
  generalize (lg_sl ([.ref b, .long sd, .int w]) ++ List.replicate (7 - (lg_sl ([.ref b, .long sd, .int w])).length) Slot.unset).toArray = ls at hl ⊢
  have hl : lv_has ls 7 [(0, .ref b), (1, .long sd), (3, .int w)] := hl
  have loop39 : ∀ (n : Nat) (k : Nat) (x : Int64) (X2 : Cx), k ≤ w.toNatClampNeg → k + n = w.toNatClampNeg + 1 → h_X6_simulate X sd w = lp_xSim w n k x X2 → ∀ (H : Heap) (locs : List Loc) (ls : Array Slot), Cb G b X2 H → va_S (blk b (b + 170)) s.heap H locs → lv_has ls 7 [(0, .ref b), (1, .long sd), (3, .int w), (4, .long x), (6, .int (nI k))] → W p l e (headSpec wsX6_simulate ({ frames := 8, cells := 1, slots := 6, locals := 138 } : Room)).room s m ([.ref b, .long sd, .int w] : List Value).toArray below meth cd H locs 0 0 (vx_MQ below (QX (h_X6_simulate X sd w) (Cb G b) (blk b (b + 170))) (XX (h_X6_simulate X sd w)) ([.ref b, .long sd, .int w] : List Value).toArray s 1 6 (blk b (b + 170))) (F0 m 39 ls []) := by
    intro n
    induction n with
    | zero =>
      intro k x X2 hk hn hR H locs ls hP hS hl
      exact absurd hn (by omega)
    | succ n ih =>
      intro k x X2 hk hn hR H locs ls hP hS hl
      refine lv_iload hx hb dX6_simulate_39 (lv_at hl 4 rfl) ?_
      refine lv_iload_n hx hb dX6_simulate_41 rfl (lv_at hl 2 rfl) ?_
      refine lv_icmp_ge (tgt := 71) hx hb dX6_simulate_42 (by decide) (fun c_1 => ?_) (fun c_1 => ?_)
      · refine lv_aload_n hx hb dX6_simulate_71 rfl (lv_at hl 0 rfl) ?_
        refine va_get (D := G.1) (ci := 4) (v := .ref (b + 12)) (C := RX6) (T := TX6) (N := 5) hx hb hts hin6 hown hO.1 hP.1 0 rfl rfl 2 (by decide) hf_23 (fun _ h9 => h9) rfl dX6_simulate_72 ?_
        refine lv_iconst (v := 3) hx hb dX6_simulate_75 (by decide) ?_
        refine cl_pi (rVN (As := [.int 3]) (rest := []) ⟨hx, hb, hml, hown, hts⟩ (c_X4_carsInState l G (b + 12) (xR X2) 3) ⟨va_cnB 1 hts gX6_simulate_X4_carsInState_n93 rfl rfl rfl (hO.2 _ (List.mem_of_getElem? (i := 42) rfl)) (hts (.initialized RX4) (by decide +kernel)) (by decide +kernel) ⟨Nat.le_of_ble_eq_true rfl, Nat.le_of_ble_eq_true rfl⟩, hts (.instanceMethod yX4_carsInState) (by decide +kernel), hts (.selects RX4 yX4_carsInState yX4_carsInState) (by decide +kernel)⟩ (st_recv hO hP.2.2.2.1) hP.2.2.2.1 hO rfl hl.1 (Nat.le_of_ble_eq_true rfl) dX6_simulate_76 ⟨Nat.le_of_ble_eq_true rfl, Nat.le_of_ble_eq_true rfl⟩) ?_
        refine lv_aload_n hx hb dX6_simulate_79 rfl (lv_at hl 0 rfl) ?_
        refine va_get (D := G.1) (ci := 4) (v := .ref (b + 3)) (C := RX6) (T := TX6) (N := 5) hx hb hts hin6 hown hO.1 hP.1 0 rfl rfl 1 (by decide) hf_19 (fun _ h9 => h9) rfl dX6_simulate_80 ?_
        refine lv_iconst (v := 3) hx hb dX6_simulate_83 (by decide) ?_
        refine cl_pi (rVN (As := [.int 3]) (rest := [.int (f_X4_carsInState (xR X2) 3)]) ⟨hx, hb, hml, hown, hts⟩ (c_X4_carsInState l G (b + 3) (xN X2) 3) ⟨va_cnB 1 hts gX6_simulate_X4_carsInState_n93 rfl rfl rfl (hO.2 _ (List.mem_of_getElem? (i := 42) rfl)) (hts (.initialized RX4) (by decide +kernel)) (by decide +kernel) ⟨Nat.le_of_ble_eq_true rfl, Nat.le_of_ble_eq_true rfl⟩, hts (.instanceMethod yX4_carsInState) (by decide +kernel), hts (.selects RX4 yX4_carsInState yX4_carsInState) (by decide +kernel)⟩ (st_recv hO hP.2.2.1) hP.2.2.1 hO rfl hl.1 (Nat.le_of_ble_eq_true rfl) dX6_simulate_84 ⟨Nat.le_of_ble_eq_true rfl, Nat.le_of_ble_eq_true rfl⟩) ?_
        refine lv_isub hx hb dX6_simulate_87 ?_
        refine lv_istore (lv' := [(6, .int ((f_X4_carsInState (xR X2) 3) - (f_X4_carsInState (xN X2) 3))), (0, .ref b), (1, .long sd), (3, .int w), (4, .long x)]) hx hb dX6_simulate_88 hl (by decide) rfl (fun ls hl => ?_)
        refine lv_sipush (v := 10000) hx hb dX6_simulate_90 (by decide) ?_
        refine lv_aload_n hx hb dX6_simulate_93 rfl (lv_at hl 1 rfl) ?_
        refine va_get (D := G.1) (ci := 4) (v := .ref (b + 12)) (C := RX6) (T := TX6) (N := 5) hx hb hts hin6 hown hO.1 hP.1 0 rfl rfl 2 (by decide) hf_23 (fun _ h9 => h9) rfl dX6_simulate_94 ?_
        refine lv_iconst (v := 0) hx hb dX6_simulate_97 (by decide) ?_
        refine cl_pi (rVN (As := [.int 0]) (rest := [.int 10000]) ⟨hx, hb, hml, hown, hts⟩ (c_X4_carsInState l G (b + 12) (xR X2) 0) ⟨va_cnB 1 hts gX6_simulate_X4_carsInState_n93 rfl rfl rfl (hO.2 _ (List.mem_of_getElem? (i := 42) rfl)) (hts (.initialized RX4) (by decide +kernel)) (by decide +kernel) ⟨Nat.le_of_ble_eq_true rfl, Nat.le_of_ble_eq_true rfl⟩, hts (.instanceMethod yX4_carsInState) (by decide +kernel), hts (.selects RX4 yX4_carsInState yX4_carsInState) (by decide +kernel)⟩ (st_recv hO hP.2.2.2.1) hP.2.2.2.1 hO rfl hl.1 (Nat.le_of_ble_eq_true rfl) dX6_simulate_98 ⟨Nat.le_of_ble_eq_true rfl, Nat.le_of_ble_eq_true rfl⟩) ?_
        refine lv_imul hx hb dX6_simulate_101 ?_
        refine lv_bipush (v := 100) hx hb dX6_simulate_102 (by decide) ?_
        refine lv_iload hx hb dX6_simulate_104 (lv_at hl 0 rfl) ?_
        refine lv_imul hx hb dX6_simulate_106 ?_
        refine lv_iadd hx hb dX6_simulate_107 ?_
        refine lv_aload_n hx hb dX6_simulate_108 rfl (lv_at hl 1 rfl) ?_
        refine va_get (D := G.1) (ci := 4) (v := .ref (b + 12)) (C := RX6) (T := TX6) (N := 5) hx hb hts hin6 hown hO.1 hP.1 0 rfl rfl 2 (by decide) hf_23 (fun _ h9 => h9) rfl dX6_simulate_109 ?_
        refine lv_iconst (v := -1) hx hb dX6_simulate_112 (by decide) ?_
        refine cl_pi (rVN (As := [.int (-1)]) (rest := [.int ((10000 * (f_X4_carsInState (xR X2) 0)) + (100 * ((f_X4_carsInState (xR X2) 3) - (f_X4_carsInState (xN X2) 3))))]) ⟨hx, hb, hml, hown, hts⟩ (c_X4_cellsWith l G (b + 12) (xR X2) (-1)) ⟨va_cnB 1 hts gX6_simulate_X4_cellsWith_n105 rfl rfl rfl (hO.2 _ (List.mem_of_getElem? (i := 45) rfl)) (hts (.initialized RX4) (by decide +kernel)) (by decide +kernel) ⟨Nat.le_of_ble_eq_true rfl, Nat.le_of_ble_eq_true rfl⟩, hts (.instanceMethod yX4_cellsWith) (by decide +kernel), hts (.selects RX4 yX4_cellsWith yX4_cellsWith) (by decide +kernel)⟩ (st_recv hO hP.2.2.2.1) hP.2.2.2.1 hO rfl hl.1 (Nat.le_of_ble_eq_true rfl) dX6_simulate_113 ⟨Nat.le_of_ble_eq_true rfl, Nat.le_of_ble_eq_true rfl⟩) ?_
        refine lv_iadd hx hb dX6_simulate_116 ?_
        have hE : h_X6_simulate X sd w = .inr (((10000 * (f_X4_carsInState (xR X2) 0)) + (100 * ((f_X4_carsInState (xR X2) 3) - (f_X4_carsInState (xN X2) 3)))) + (f_X4_cellsWith (xR X2) (-1)), X2) := (hR.trans (by rw [lp_xSim, if_pos c_1]))
        exact W.widen (k := 1) (n := 6) (Nat.le_of_ble_eq_true rfl) (Nat.le_of_ble_eq_true rfl) (vx_ret (W.iret hx hb hr (fun t ht hW => ⟨_, _, hE, rfl, by rw [ht]; exact hP, hS.F ht⟩) hS.2.2 dX6_simulate_117))
      · have hlt : k < w.toNatClampNeg := (by have h8 := clamp_lt w; exact kV c_1 (by omega))
        refine lv_lload hx hb dX6_simulate_45 (lv_at hl 3 rfl) ?_
        refine cl_pl (rS (As := [.long x]) (rest := []) ⟨hx, hb, hml, hown, hts⟩ (c_X6_nextChance l G x) (va_cwS 1 hts gX6_simulate_X6_nextChance rfl rfl rfl (by decide +kernel) ⟨Nat.le_of_ble_eq_true rfl, Nat.le_of_ble_eq_true rfl⟩) trivial hO rfl hl.1 (Nat.le_of_ble_eq_true rfl) dX6_simulate_47 ⟨Nat.le_of_ble_eq_true rfl, Nat.le_of_ble_eq_true rfl⟩) ?_
        refine lv_lstore (lv' := [(4, .long (f_X6_nextChance x)), (0, .ref b), (1, .long sd), (3, .int w), (6, .int (nI k))]) hx hb dX6_simulate_50 hl (by decide) rfl (fun ls hl => ?_)
        refine lv_lload hx hb dX6_simulate_52 (lv_at hl 0 rfl) ?_
        refine lv_bipush (v := 33) hx hb dX6_simulate_54 (by decide) ?_
        refine lv_lushr (v := jUshr (f_X6_nextChance x) 33) hx hb dX6_simulate_56 rfl ?_
        refine lv_l2i (v := (jUshr (f_X6_nextChance x) 33).toInt32) hx hb dX6_simulate_57 rfl ?_
        refine lv_aload_n hx hb dX6_simulate_58 rfl (lv_at hl 1 rfl) ?_
        refine va_get (D := G.1) (ci := 4) (v := .ref (b + 12)) (C := RX6) (T := TX6) (N := 5) hx hb hts hin6 hown hO.1 hP.1 0 rfl rfl 2 (by decide) hf_23 (fun _ h9 => h9) rfl dX6_simulate_59 ?_
        refine cl_mv (rSN (As := [.int ((jUshr (f_X6_nextChance x) 33).toInt32), .ref (b + 12)]) (rest := []) ⟨hx, hb, hml, hown, hts⟩ (c_X3_doTurn l G (b + 12) (xR X2) ((jUshr (f_X6_nextChance x) 33).toInt32)) ⟨va_cnB 2 hts gX6_simulate_X3_doTurn_n290 rfl rfl rfl (hO.2 _ (List.mem_of_getElem? (i := 92) rfl)) (hts (.initialized RX3) (by decide +kernel)) (by decide +kernel) ⟨Nat.le_of_ble_eq_true rfl, Nat.le_of_ble_eq_true rfl⟩, hts (.static yX3_doTurn) (by decide +kernel), trivial⟩ hP.2.2.2.1 hO rfl hl.1 (Nat.le_of_ble_eq_true rfl) dX6_simulate_62 ⟨Nat.le_of_ble_eq_true rfl, Nat.le_of_ble_eq_true rfl⟩) hS (fun q h => hA q (by simp only [blk, blk2, blkh] at *; omega)) (fun H locs hP1 hz hk hS => ?_)
        have hP : Cb G b (yR X2 (h_X3_doTurn (xR X2) ((jUshr (f_X6_nextChance x) 33).toInt32))) H := cb_trial hP hP1 hk
        refine lv_iinc (v := nI (k + 1)) (lv' := [(6, .int (nI (k + 1))), (4, .long (f_X6_nextChance x)), (0, .ref b), (1, .long sd), (3, .int w)]) hx hb dX6_simulate_65 hl (k := 4) rfl (nI_1 _) (by decide) rfl (fun ls hl => ?_)
        refine lv_goto (tgt := 39) hx hb dX6_simulate_68 (by decide) ?_
        have hE_2 : h_X6_simulate X sd w = lp_xSim w n (k + 1) (f_X6_nextChance x) (yR X2 (h_X3_doTurn (xR X2) ((jUshr (f_X6_nextChance x) 33).toInt32))) := (hR.trans (by rw [lp_xSim, if_neg c_1]))
        exact ih (k + 1) (f_X6_nextChance x) (yR X2 (h_X3_doTurn (xR X2) ((jUshr (f_X6_nextChance x) 33).toInt32))) (by omega) (by omega) hE_2 _ _ _ hP hS (lv_sub hl [2, 3, 4, 1, 0] rfl)
  refine lv_iload_n hx hb dX6_simulate_0 rfl (lv_at hl 2 rfl) ?_
  refine lv_iconst (v := 1) hx hb dX6_simulate_1 (by decide) ?_
  refine lv_icmp_lt (tgt := 11) hx hb dX6_simulate_2 (by decide) (fun c_3 => ?_) (fun c_3 => ?_)
  · have hE : h_X6_simulate X sd w = .inl "java/lang/IllegalArgumentException" := (by rw [h_X6_simulate, if_pos c_3])
    obtain ⟨sa, hsa⟩ := hTh.2.2.2 22 _ rfl
    exact vx_throwSW (names := ["java/lang/RuntimeException", "java/lang/Exception"]) (sa := sa) hx hb hst hown (by decide +kernel) (by decide +kernel) (hts (.classLink RX6 40 "java/lang/IllegalArgumentException") (by decide +kernel)) (hts (.initialized "java/lang/IllegalArgumentException") (by decide +kernel)) hsa (vx_hat (fun w h => hts w (List.mem_cons_of_mem _ (List.mem_append_right _ h))) thr_sub44 hTh.w) thr_good44 hTh.2.1 hTh.2.2.1 hS (by rw [hml]; exact hl.1) dX6_simulate_11 dX6_simulate_14 dX6_simulate_15 dX6_simulate_18 dX6_simulate_21 (fun x hx => (hno x hx).elim) (Nat.le_of_ble_eq_true rfl) (Nat.le_of_ble_eq_true rfl) (Nat.le_of_ble_eq_true rfl) (Nat.le_of_ble_eq_true rfl) hlocks (fun t _ h1 h2 => ⟨hE, h1, fun q hq _ => h2 q hq⟩) hS.2.2 (Nat.le_of_ble_eq_true rfl) (Nat.le_of_ble_eq_true rfl)
  · refine lv_iload_n hx hb dX6_simulate_5 rfl (lv_at hl 2 rfl) ?_
    refine lv_bipush (v := 60) hx hb dX6_simulate_6 (by decide) ?_
    refine lv_icmp_le (tgt := 22) hx hb dX6_simulate_8 (by decide) (fun c_4 => ?_) (fun c_4 => ?_)
    · refine lv_aload_n hx hb dX6_simulate_22 rfl (lv_at hl 0 rfl) ?_
      refine va_get (D := G.1) (ci := 4) (v := .ref (b + 12)) (C := RX6) (T := TX6) (N := 5) hx hb hts hin6 hown hO.1 hP.1 0 rfl rfl 2 (by decide) hf_23 (fun _ h9 => h9) rfl dX6_simulate_23 ?_
      refine lv_aload_n hx hb dX6_simulate_26 rfl (lv_at hl 0 rfl) ?_
      refine va_get (D := G.1) (ci := 4) (v := .ref (b + 3)) (C := RX6) (T := TX6) (N := 5) hx hb hts hin6 hown hO.1 hP.1 0 rfl rfl 1 (by decide) hf_19 (fun _ h9 => h9) rfl dX6_simulate_27 ?_
      refine cl_mv (rVN (As := [.ref (b + 3)]) (rest := []) ⟨hx, hb, hml, hown, hts⟩ (c_X4_copyFrom l G (b + 12) (b + 3) (xR X) (xN X) (by omega)) ⟨va_cnB 1 hts gX6_simulate_X4_copyFrom_n253 rfl rfl rfl (hO.2 _ (List.mem_of_getElem? (i := 68) rfl)) (hts (.initialized RX4) (by decide +kernel)) (by decide +kernel) ⟨Nat.le_of_ble_eq_true rfl, Nat.le_of_ble_eq_true rfl⟩, hts (.instanceMethod yX4_copyFrom) (by decide +kernel), hts (.selects RX4 yX4_copyFrom yX4_copyFrom) (by decide +kernel)⟩ (st_recv hO hP.2.2.2.1) (P_app.mpr ⟨hP.2.2.2.1, hP.2.2.1⟩) hO rfl hl.1 (Nat.le_of_ble_eq_true rfl) dX6_simulate_30 ⟨Nat.le_of_ble_eq_true rfl, Nat.le_of_ble_eq_true rfl⟩) hS (fun q h => hA q (by simp only [blk, blk2, blkh] at *; omega)) (fun H locs hP1 hz hk hS => ?_)
      have hP : Cb G b (yR X (xN X)) H := cb_copy hP hP1 hk
      refine lv_lload_n hx hb dX6_simulate_33 rfl (lv_at hl 1 rfl) ?_
      refine lv_lstore (lv' := [(4, .long sd), (0, .ref b), (1, .long sd), (3, .int w)]) hx hb dX6_simulate_34 hl (by decide) rfl (fun ls hl => ?_)
      refine lv_iconst (v := 0) hx hb dX6_simulate_36 (by decide) ?_
      refine lv_istore (lv' := [(6, .int 0), (4, .long sd), (0, .ref b), (1, .long sd), (3, .int w)]) hx hb dX6_simulate_37 hl (by decide) rfl (fun ls hl => ?_)
      have hE_5 : h_X6_simulate X sd w = lp_xSim w (w.toNatClampNeg + 1) 0 sd (yR X (xN X)) := (by rw [h_X6_simulate, if_neg c_3, if_pos c_4])
      exact loop39 (w.toNatClampNeg + 1) 0 sd (yR X (xN X)) (Nat.zero_le _) (by omega) hE_5 _ _ _ hP hS (lv_sub hl [2, 3, 4, 1, 0] rfl)
    · have hE : h_X6_simulate X sd w = .inl "java/lang/IllegalArgumentException" := (by rw [h_X6_simulate, if_neg c_3, if_neg c_4])
      obtain ⟨sa, hsa⟩ := hTh.2.2.2 22 _ rfl
      exact vx_throwSW (names := ["java/lang/RuntimeException", "java/lang/Exception"]) (sa := sa) hx hb hst hown (by decide +kernel) (by decide +kernel) (hts (.classLink RX6 40 "java/lang/IllegalArgumentException") (by decide +kernel)) (hts (.initialized "java/lang/IllegalArgumentException") (by decide +kernel)) hsa (vx_hat (fun w h => hts w (List.mem_cons_of_mem _ (List.mem_append_right _ h))) thr_sub44 hTh.w) thr_good44 hTh.2.1 hTh.2.2.1 hS (by rw [hml]; exact hl.1) dX6_simulate_11 dX6_simulate_14 dX6_simulate_15 dX6_simulate_18 dX6_simulate_21 (fun x hx => (hno x hx).elim) (Nat.le_of_ble_eq_true rfl) (Nat.le_of_ble_eq_true rfl) (Nat.le_of_ble_eq_true rfl) (Nat.le_of_ble_eq_true rfl) hlocks (fun t _ h1 h2 => ⟨hE, h1, fun q hq _ => h2 q hq⟩) hS.2.2 (Nat.le_of_ble_eq_true rfl) (Nat.le_of_ble_eq_true rfl)

def h_X6_save (X : Cx) (x : Int32) : String ⊕ (Int32 × Cx) :=
  if (f_X6_requireSlot x) = 0 then .inl "java/lang/IndexOutOfBoundsException" else
  .inr (sM (xN (yS (yN X (vT (h_X1_keep (xS X, xN X) x.toNatClampNeg))) (vH (h_X1_keep (xS X, xN X) x.toNatClampNeg)))), (yS (yN X (vT (h_X1_keep (xS X, xN X) x.toNatClampNeg))) (vH (h_X1_keep (xS X, xN X) x.toNatClampNeg))))
set_option maxHeartbeats 4000000 in
set_option maxRecDepth 100000 in
theorem c_X6_save (l : Launch) (G : GG) (b : Nat) (X : Cx) (x : Int32) (hst : l.stackTraces = false) : vx_Met l yX6_save wsX6_save ({ frames := 9, cells := 1, slots := 6, locals := 140 }) (PcT G (blk b (b + 170)) [.ref b, .int x] (Cb G b X)) (QX (h_X6_save X x) (Cb G b) (blk b (b + 170))) (XX (h_X6_save X x)) 1 6 (blk b (b + 170)) := by
  refine metX (cc := cX6_save) (maxL := 2) (ret := (some .int)) (by decide) rfl ?_
  intro p e s m below meth cd hx hb hr hml hown hts hlocks hno hP hO hTh
  have hin4 : ∀ w ∈ u_ws RX4 TX4 14, w ∈ wsX6_save := by decide +kernel
  have hin6 : ∀ w ∈ u_ws RX6 TX6 5, w ∈ wsX6_save := by decide +kernel
  have hf_19 := hts (.fieldLink RX6 19 "CurbCars" "now" "LCurbCars$Street;") (by decide +kernel)
  have hf_36 := hts (.fieldLink RX6 36 "CurbCars" "slots" "LCurbCars$SaveSlots;") (by decide +kernel)
  have hA : ∀ q, (blk b (b + 170)) q → (blk b (b + 170)) q := fun _ h => h
  have hS : va_S (blk b (b + 170)) s.heap s.heap [] := va_S.rf
  have hl := lv_entry ([.ref b, .int x]) (n := 2) (Nat.le_of_ble_eq_true rfl)
  rw [lg_entry_eq]
  generalize (lg_sl ([.ref b, .int x]) ++ List.replicate (2 - (lg_sl ([.ref b, .int x])).length) Slot.unset).toArray = ls at hl ⊢
  have hl : lv_has ls 2 [(0, .ref b), (1, .int x)] := hl
  refine lv_iload_n hx hb dX6_save_0 rfl (lv_at hl 1 rfl) ?_
  by_cases c_1 : (f_X6_requireSlot x) = 0
  · have hE : h_X6_save X x = .inl "java/lang/IndexOutOfBoundsException" := (by rw [h_X6_save, if_pos c_1])
    exact cl_tx (xZ (As := [.int x]) (rest := []) ⟨hx, hb, hml, hown, hts⟩ (c_X6_requireSlot_t l G (blk b (b + 170)) x hst c_1) (va_cwS 1 hts gX6_save_X6_requireSlot rfl rfl rfl (by decide +kernel) ⟨Nat.le_of_ble_eq_true rfl, Nat.le_of_ble_eq_true rfl⟩) trivial hO (fun U hU hW => hTh.warm hW hU) rfl hl.1 (Nat.le_of_ble_eq_true rfl) dX6_save_1 ⟨Nat.le_of_ble_eq_true rfl, Nat.le_of_ble_eq_true rfl⟩) (fun q h => h) hno hlocks (Nat.le_of_ble_eq_true rfl) (Nat.le_of_ble_eq_true rfl) (fun t h => ⟨hE, h⟩)
  · refine cl_pv (rS (As := [.int x]) (rest := []) ⟨hx, hb, hml, hown, hts⟩ (c_X6_requireSlot_n l G x c_1) (va_cwS 1 hts gX6_save_X6_requireSlot rfl rfl rfl (by decide +kernel) ⟨Nat.le_of_ble_eq_true rfl, Nat.le_of_ble_eq_true rfl⟩) trivial hO rfl hl.1 (Nat.le_of_ble_eq_true rfl) dX6_save_1 ⟨Nat.le_of_ble_eq_true rfl, Nat.le_of_ble_eq_true rfl⟩) ?_
    refine lv_aload_n hx hb dX6_save_4 rfl (lv_at hl 0 rfl) ?_
    refine va_get (D := G.1) (ci := 4) (v := .ref (b + 149)) (C := RX6) (T := TX6) (N := 5) hx hb hts hin6 hown hO.1 hP.1 0 rfl rfl 4 (by decide) hf_36 (fun _ h9 => h9) rfl dX6_save_5 ?_
    refine lv_iload_n hx hb dX6_save_8 rfl (lv_at hl 1 rfl) ?_
    refine lv_aload_n hx hb dX6_save_9 rfl (lv_at hl 0 rfl) ?_
    refine va_get (D := G.1) (ci := 4) (v := .ref (b + 3)) (C := RX6) (T := TX6) (N := 5) hx hb hts hin6 hown hO.1 hP.1 0 rfl rfl 1 (by decide) hf_19 (fun _ h9 => h9) rfl dX6_save_10 ?_
    refine cl_mv (rVN (As := [.int x, .ref (b + 3)]) (rest := []) ⟨hx, hb, hml, hown, hts⟩ (c_X1_keep_raw l G (b + 149) (b + 3) (xS X, xN X) x (by omega) (slot_x (by assumption))) ⟨va_cnB 2 hts gX6_save_X1_keep_n299 rfl rfl rfl (hO.2 _ (List.mem_of_getElem? (i := 72) rfl)) (hts (.initialized RX1) (by decide +kernel)) (by decide +kernel) ⟨Nat.le_of_ble_eq_true rfl, Nat.le_of_ble_eq_true rfl⟩, hts (.instanceMethod yX1_keep) (by decide +kernel), hts (.selects RX1 yX1_keep yX1_keep) (by decide +kernel)⟩ (sv_recv0 hO hP.2.2.2.2.2) (P_app.mpr ⟨hP.2.2.2.2.2, hP.2.2.1⟩) hO rfl hl.1 (Nat.le_of_ble_eq_true rfl) dX6_save_13 ⟨Nat.le_of_ble_eq_true rfl, Nat.le_of_ble_eq_true rfl⟩) hS (fun q h => hA q (by simp only [blk, blk2, blkh] at *; omega)) (fun H locs hP1 hz hk hS => ?_)
    have hP : Cb G b (yS (yN X (vT (h_X1_keep (xS X, xN X) x.toNatClampNeg))) (vH (h_X1_keep (xS X, xN X) x.toNatClampNeg))) H := cb_slot2 hP hP1 hk
    refine lv_aload_n hx hb dX6_save_16 rfl (lv_at hl 0 rfl) ?_
    refine va_get (D := G.1) (ci := 4) (v := .ref (b + 3)) (C := RX6) (T := TX6) (N := 5) hx hb hts hin6 hown hO.1 hP.1 0 rfl rfl 1 (by decide) hf_19 (fun _ h9 => h9) rfl dX6_save_17 ?_
    refine va_getN (D := G.1) (ci := 2) (v := .int (sM (xN (yS (yN X (vT (h_X1_keep (xS X, xN X) x.toNatClampNeg))) (vH (h_X1_keep (xS X, xN X) x.toNatClampNeg)))))) (C := RX4) (T := TX4) (N := 14) hx hb hts hin4 hown hO.1 hP.2.2.1 0 rfl rfl 9 (by decide) (va_Nw.use rfl (hO.2 _ (List.mem_of_getElem? (i := 12) rfl))) (fun _ h9 => h9) rfl dX6_save_20 ?_
    have hE : h_X6_save X x = .inr (sM (xN (yS (yN X (vT (h_X1_keep (xS X, xN X) x.toNatClampNeg))) (vH (h_X1_keep (xS X, xN X) x.toNatClampNeg)))), (yS (yN X (vT (h_X1_keep (xS X, xN X) x.toNatClampNeg))) (vH (h_X1_keep (xS X, xN X) x.toNatClampNeg)))) := (by rw [h_X6_save, if_neg c_1])
    exact W.widen (k := 1) (n := 6) (Nat.le_of_ble_eq_true rfl) (Nat.le_of_ble_eq_true rfl) (vx_ret (W.iret hx hb hr (fun t ht hW => ⟨_, _, hE, rfl, by rw [ht]; exact hP, hS.F ht⟩) hS.2.2 dX6_save_23))

def h_X6_restore (X : Cx) (x : Int32) : String ⊕ (Int32 × Cx) :=
  if (f_X6_requireSlot x) = 0 then .inl "java/lang/IndexOutOfBoundsException" else
  if (f_X1_isFilled (xS X) x) = 0 then .inl "java/lang/IllegalStateException" else
  .inr (sM (xN (yH (yS (yN X (vT (h_X1_giveBack (xS X, xN X) x.toNatClampNeg))) (vH (h_X1_giveBack (xS X, xN X) x.toNatClampNeg))) (h_X0_forget (xH (yS (yN X (vT (h_X1_giveBack (xS X, xN X) x.toNatClampNeg))) (vH (h_X1_giveBack (xS X, xN X) x.toNatClampNeg))))))), (yH (yS (yN X (vT (h_X1_giveBack (xS X, xN X) x.toNatClampNeg))) (vH (h_X1_giveBack (xS X, xN X) x.toNatClampNeg))) (h_X0_forget (xH (yS (yN X (vT (h_X1_giveBack (xS X, xN X) x.toNatClampNeg))) (vH (h_X1_giveBack (xS X, xN X) x.toNatClampNeg)))))))
set_option maxHeartbeats 4000000 in
set_option maxRecDepth 100000 in
theorem c_X6_restore (l : Launch) (G : GG) (b : Nat) (X : Cx) (x : Int32) (hst : l.stackTraces = false) : vx_Met l yX6_restore wsX6_restore ({ frames := 9, cells := 1, slots := 6, locals := 140 }) (PcT G (blk b (b + 170)) [.ref b, .int x] (Cb G b X)) (QX (h_X6_restore X x) (Cb G b) (blk b (b + 170))) (XX (h_X6_restore X x)) 1 6 (blk b (b + 170)) := by
  refine metX (cc := cX6_restore) (maxL := 2) (ret := (some .int)) (by decide) rfl ?_
  intro p e s m below meth cd hx hb hr hml hown hts hlocks hno hP hO hTh
  have hin4 : ∀ w ∈ u_ws RX4 TX4 14, w ∈ wsX6_restore := by decide +kernel
  have hin6 : ∀ w ∈ u_ws RX6 TX6 5, w ∈ wsX6_restore := by decide +kernel
  have hf_19 := hts (.fieldLink RX6 19 "CurbCars" "now" "LCurbCars$Street;") (by decide +kernel)
  have hf_29 := hts (.fieldLink RX6 29 "CurbCars" "history" "LCurbCars$History;") (by decide +kernel)
  have hf_36 := hts (.fieldLink RX6 36 "CurbCars" "slots" "LCurbCars$SaveSlots;") (by decide +kernel)
  have hA : ∀ q, (blk b (b + 170)) q → (blk b (b + 170)) q := fun _ h => h
  have hS : va_S (blk b (b + 170)) s.heap s.heap [] := va_S.rf
  have hl := lv_entry ([.ref b, .int x]) (n := 2) (Nat.le_of_ble_eq_true rfl)
  rw [lg_entry_eq]
  generalize (lg_sl ([.ref b, .int x]) ++ List.replicate (2 - (lg_sl ([.ref b, .int x])).length) Slot.unset).toArray = ls at hl ⊢
  have hl : lv_has ls 2 [(0, .ref b), (1, .int x)] := hl
  refine lv_iload_n hx hb dX6_restore_0 rfl (lv_at hl 1 rfl) ?_
  by_cases c_1 : (f_X6_requireSlot x) = 0
  · have hE : h_X6_restore X x = .inl "java/lang/IndexOutOfBoundsException" := (by rw [h_X6_restore, if_pos c_1])
    exact cl_tx (xZ (As := [.int x]) (rest := []) ⟨hx, hb, hml, hown, hts⟩ (c_X6_requireSlot_t l G (blk b (b + 170)) x hst c_1) (va_cwS 1 hts gX6_restore_X6_requireSlot rfl rfl rfl (by decide +kernel) ⟨Nat.le_of_ble_eq_true rfl, Nat.le_of_ble_eq_true rfl⟩) trivial hO (fun U hU hW => hTh.warm hW hU) rfl hl.1 (Nat.le_of_ble_eq_true rfl) dX6_restore_1 ⟨Nat.le_of_ble_eq_true rfl, Nat.le_of_ble_eq_true rfl⟩) (fun q h => h) hno hlocks (Nat.le_of_ble_eq_true rfl) (Nat.le_of_ble_eq_true rfl) (fun t h => ⟨hE, h⟩)
  · refine cl_pv (rS (As := [.int x]) (rest := []) ⟨hx, hb, hml, hown, hts⟩ (c_X6_requireSlot_n l G x c_1) (va_cwS 1 hts gX6_restore_X6_requireSlot rfl rfl rfl (by decide +kernel) ⟨Nat.le_of_ble_eq_true rfl, Nat.le_of_ble_eq_true rfl⟩) trivial hO rfl hl.1 (Nat.le_of_ble_eq_true rfl) dX6_restore_1 ⟨Nat.le_of_ble_eq_true rfl, Nat.le_of_ble_eq_true rfl⟩) ?_
    refine lv_aload_n hx hb dX6_restore_4 rfl (lv_at hl 0 rfl) ?_
    refine va_get (D := G.1) (ci := 4) (v := .ref (b + 149)) (C := RX6) (T := TX6) (N := 5) hx hb hts hin6 hown hO.1 hP.1 0 rfl rfl 4 (by decide) hf_36 (fun _ h9 => h9) rfl dX6_restore_5 ?_
    refine lv_iload_n hx hb dX6_restore_8 rfl (lv_at hl 1 rfl) ?_
    refine cl_pi (rVN (As := [.int x]) (rest := []) ⟨hx, hb, hml, hown, hts⟩ (c_X1_isFilled l G (b + 149) (xS X) x) ⟨va_cnB 1 hts gX6_restore_X1_isFilled_n302 rfl rfl rfl (hO.2 _ (List.mem_of_getElem? (i := 75) rfl)) (hts (.initialized RX1) (by decide +kernel)) (by decide +kernel) ⟨Nat.le_of_ble_eq_true rfl, Nat.le_of_ble_eq_true rfl⟩, hts (.instanceMethod yX1_isFilled) (by decide +kernel), hts (.selects RX1 yX1_isFilled yX1_isFilled) (by decide +kernel)⟩ (sv_recv0 hO hP.2.2.2.2.2) hP.2.2.2.2.2 hO rfl hl.1 (Nat.le_of_ble_eq_true rfl) dX6_restore_9 ⟨Nat.le_of_ble_eq_true rfl, Nat.le_of_ble_eq_true rfl⟩) ?_
    refine lv_if_ne (tgt := 26) hx hb dX6_restore_12 (by decide) (fun c_2 => ?_) (fun c_2 => ?_)
    · refine lv_aload_n hx hb dX6_restore_26 rfl (lv_at hl 0 rfl) ?_
      refine va_get (D := G.1) (ci := 4) (v := .ref (b + 149)) (C := RX6) (T := TX6) (N := 5) hx hb hts hin6 hown hO.1 hP.1 0 rfl rfl 4 (by decide) hf_36 (fun _ h9 => h9) rfl dX6_restore_27 ?_
      refine lv_iload_n hx hb dX6_restore_30 rfl (lv_at hl 1 rfl) ?_
      refine lv_aload_n hx hb dX6_restore_31 rfl (lv_at hl 0 rfl) ?_
      refine va_get (D := G.1) (ci := 4) (v := .ref (b + 3)) (C := RX6) (T := TX6) (N := 5) hx hb hts hin6 hown hO.1 hP.1 0 rfl rfl 1 (by decide) hf_19 (fun _ h9 => h9) rfl dX6_restore_32 ?_
      refine cl_mv (rVN (As := [.int x, .ref (b + 3)]) (rest := []) ⟨hx, hb, hml, hown, hts⟩ (c_X1_giveBack_raw l G (b + 149) (b + 3) (xS X, xN X) x (by omega) (slot_x (by assumption))) ⟨va_cnB 2 hts gX6_restore_X1_giveBack_n307 rfl rfl rfl (hO.2 _ (List.mem_of_getElem? (i := 76) rfl)) (hts (.initialized RX1) (by decide +kernel)) (by decide +kernel) ⟨Nat.le_of_ble_eq_true rfl, Nat.le_of_ble_eq_true rfl⟩, hts (.instanceMethod yX1_giveBack) (by decide +kernel), hts (.selects RX1 yX1_giveBack yX1_giveBack) (by decide +kernel)⟩ (sv_recv0 hO hP.2.2.2.2.2) (P_app.mpr ⟨hP.2.2.2.2.2, hP.2.2.1⟩) hO rfl hl.1 (Nat.le_of_ble_eq_true rfl) dX6_restore_35 ⟨Nat.le_of_ble_eq_true rfl, Nat.le_of_ble_eq_true rfl⟩) hS (fun q h => hA q (by simp only [blk, blk2, blkh] at *; omega)) (fun H locs hP1 hz hk hS => ?_)
      have hP : Cb G b (yS (yN X (vT (h_X1_giveBack (xS X, xN X) x.toNatClampNeg))) (vH (h_X1_giveBack (xS X, xN X) x.toNatClampNeg))) H := cb_slot2 hP hP1 hk
      refine lv_aload_n hx hb dX6_restore_38 rfl (lv_at hl 0 rfl) ?_
      refine va_get (D := G.1) (ci := 4) (v := .ref (b + 21)) (C := RX6) (T := TX6) (N := 5) hx hb hts hin6 hown hO.1 hP.1 0 rfl rfl 3 (by decide) hf_29 (fun _ h9 => h9) rfl dX6_restore_39 ?_
      refine cl_mv (rVN (As := []) (rest := []) ⟨hx, hb, hml, hown, hts⟩ (c_X0_forget l G (b + 21) (xH (yS (yN X (vT (h_X1_giveBack (xS X, xN X) x.toNatClampNeg))) (vH (h_X1_giveBack (xS X, xN X) x.toNatClampNeg))))) ⟨va_cnB 0 hts gX6_restore_X0_forget_n72 rfl rfl rfl (hO.2 _ (List.mem_of_getElem? (i := 23) rfl)) (hts (.initialized RX0) (by decide +kernel)) (by decide +kernel) ⟨Nat.le_of_ble_eq_true rfl, Nat.le_of_ble_eq_true rfl⟩, hts (.instanceMethod yX0_forget) (by decide +kernel), hts (.selects RX0 yX0_forget yX0_forget) (by decide +kernel)⟩ (hs_recv0 hO hP.2.2.2.2.1) hP.2.2.2.2.1 hO rfl hl.1 (Nat.le_of_ble_eq_true rfl) dX6_restore_42 ⟨Nat.le_of_ble_eq_true rfl, Nat.le_of_ble_eq_true rfl⟩) hS (fun q h => hA q (by simp only [blk, blk2, blkh] at *; omega)) (fun H locs hP1 hz hk hS => ?_)
      have hP : Cb G b (yH (yS (yN X (vT (h_X1_giveBack (xS X, xN X) x.toNatClampNeg))) (vH (h_X1_giveBack (xS X, xN X) x.toNatClampNeg))) (h_X0_forget (xH (yS (yN X (vT (h_X1_giveBack (xS X, xN X) x.toNatClampNeg))) (vH (h_X1_giveBack (xS X, xN X) x.toNatClampNeg)))))) H := cb_hist hP hP1 hk
      refine lv_aload_n hx hb dX6_restore_45 rfl (lv_at hl 0 rfl) ?_
      refine va_get (D := G.1) (ci := 4) (v := .ref (b + 3)) (C := RX6) (T := TX6) (N := 5) hx hb hts hin6 hown hO.1 hP.1 0 rfl rfl 1 (by decide) hf_19 (fun _ h9 => h9) rfl dX6_restore_46 ?_
      refine va_getN (D := G.1) (ci := 2) (v := .int (sM (xN (yH (yS (yN X (vT (h_X1_giveBack (xS X, xN X) x.toNatClampNeg))) (vH (h_X1_giveBack (xS X, xN X) x.toNatClampNeg))) (h_X0_forget (xH (yS (yN X (vT (h_X1_giveBack (xS X, xN X) x.toNatClampNeg))) (vH (h_X1_giveBack (xS X, xN X) x.toNatClampNeg))))))))) (C := RX4) (T := TX4) (N := 14) hx hb hts hin4 hown hO.1 hP.2.2.1 0 rfl rfl 9 (by decide) (va_Nw.use rfl (hO.2 _ (List.mem_of_getElem? (i := 12) rfl))) (fun _ h9 => h9) rfl dX6_restore_49 ?_
      have hE : h_X6_restore X x = .inr (sM (xN (yH (yS (yN X (vT (h_X1_giveBack (xS X, xN X) x.toNatClampNeg))) (vH (h_X1_giveBack (xS X, xN X) x.toNatClampNeg))) (h_X0_forget (xH (yS (yN X (vT (h_X1_giveBack (xS X, xN X) x.toNatClampNeg))) (vH (h_X1_giveBack (xS X, xN X) x.toNatClampNeg))))))), (yH (yS (yN X (vT (h_X1_giveBack (xS X, xN X) x.toNatClampNeg))) (vH (h_X1_giveBack (xS X, xN X) x.toNatClampNeg))) (h_X0_forget (xH (yS (yN X (vT (h_X1_giveBack (xS X, xN X) x.toNatClampNeg))) (vH (h_X1_giveBack (xS X, xN X) x.toNatClampNeg))))))) := (by rw [h_X6_restore, if_neg c_1, if_neg c_2])
      exact W.widen (k := 1) (n := 6) (Nat.le_of_ble_eq_true rfl) (Nat.le_of_ble_eq_true rfl) (vx_ret (W.iret hx hb hr (fun t ht hW => ⟨_, _, hE, rfl, by rw [ht]; exact hP, hS.F ht⟩) hS.2.2 dX6_restore_52))
    · have hE : h_X6_restore X x = .inl "java/lang/IllegalStateException" := (by rw [h_X6_restore, if_neg c_1, if_pos c_2])
      obtain ⟨sa, hsa⟩ := hTh.2.2.2 17 _ rfl
      exact vx_throwSW (names := ["java/lang/RuntimeException", "java/lang/Exception"]) (sa := sa) hx hb hst hown (by decide +kernel) (by decide +kernel) (hts (.classLink RX6 51 "java/lang/IllegalStateException") (by decide +kernel)) (hts (.initialized "java/lang/IllegalStateException") (by decide +kernel)) hsa (vx_hat (fun w h => hts w (List.mem_cons_of_mem _ (List.mem_append_left _ (List.mem_append_right _ h)))) thr_sub55 hTh.w) thr_good55 hTh.2.1 hTh.2.2.1 hS (by rw [hml]; exact hl.1) dX6_restore_15 dX6_restore_18 dX6_restore_19 dX6_restore_22 dX6_restore_25 (fun x hx => (hno x hx).elim) (Nat.le_of_ble_eq_true rfl) (Nat.le_of_ble_eq_true rfl) (Nat.le_of_ble_eq_true rfl) (Nat.le_of_ble_eq_true rfl) hlocks (fun t _ h1 h2 => ⟨hE, h1, fun q hq _ => h2 q hq⟩) hS.2.2 (Nat.le_of_ble_eq_true rfl) (Nat.le_of_ble_eq_true rfl)
