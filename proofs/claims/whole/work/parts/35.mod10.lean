theorem of_cp (f g : Rw) {c w : Nat} (hc : c < 40) (hw : w < 6) : f_X7_of (h_X7_copyState f g 0 0) c w = f_X7_of f c w := cp_00 f g (by omega)
theorem mv_cp {g f : Rw} {c x : Nat} (h : RI g) (hc : c < 40) (hx : x < 80) (hm : ¬ f_X7_canMove g c x = 0) : f_X7_of (h_X7_copyState g f 0 0) c 3 = nI (px (h_X7_copyState g f 0 0) c) ∧ f_X7_of (h_X7_copyState g f 0 0) c 0 = nI (pj (h_X7_copyState g f 0 0) c) ∧ px (h_X7_copyState g f 0 0) c + pj (h_X7_copyState g f 0 0) c ≤ 80 ∧ x + pj (h_X7_copyState g f 0 0) c ≤ 80 := by
  have q := mv_ok h hc hx hm
  have r := h.X q.1 q.2.1
  have e3 := of_cp g f (c := c) (w := 3) hc (by omega)
  have e0 := of_cp g f (c := c) (w := 0) hc (by omega)
  have p3 : px (h_X7_copyState g f 0 0) c = px g c := by rw [px, e3, px]
  have p0 : pj (h_X7_copyState g f 0 0) c = pj g c := by rw [pj, e0, pj]
  rw [e3, e0, p3, p0]
  exact ⟨r.1, r.2.1, r.2.2, q.2.2⟩

def lp_rHelps (c : Nat) (len : Int32) : Nat → Int32 → Int32 → Nat → Mo → Int32 × Mo
  | 0, best, _, _, M2 => (best, M2)
  | n + 1, best, least, k, M2 => if 80 ≤ (nI k) then (best, M2) else
    if (f_X7_canMove (mN M2) c k) = 0 then lp_rHelps c len n best least (k + 1) M2 else
    if (f_X7_suffices (mH (oH (oH M2 (h_X7_copyState (mN M2) (mH M2) 0 0)) ((h_X7_moveOn (mH (oH M2 (h_X7_copyState (mN M2) (mH M2) 0 0))) c k).2))) len) = 0 then lp_rHelps c len n best least (k + 1) (oH (oH M2 (h_X7_copyState (mN M2) (mH M2) 0 0)) ((h_X7_moveOn (mH (oH M2 (h_X7_copyState (mN M2) (mH M2) 0 0))) c k).2)) else
    if best = (-1) then lp_rHelps c len n (nI k) ((h_X7_moveOn (mH (oH M2 (h_X7_copyState (mN M2) (mH M2) 0 0))) c k).1) (k + 1) (oH (oH M2 (h_X7_copyState (mN M2) (mH M2) 0 0)) ((h_X7_moveOn (mH (oH M2 (h_X7_copyState (mN M2) (mH M2) 0 0))) c k).2)) else
    if least ≤ ((h_X7_moveOn (mH (oH M2 (h_X7_copyState (mN M2) (mH M2) 0 0))) c k).1) then lp_rHelps c len n best least (k + 1) (oH (oH M2 (h_X7_copyState (mN M2) (mH M2) 0 0)) ((h_X7_moveOn (mH (oH M2 (h_X7_copyState (mN M2) (mH M2) 0 0))) c k).2)) else
    lp_rHelps c len n (nI k) ((h_X7_moveOn (mH (oH M2 (h_X7_copyState (mN M2) (mH M2) 0 0))) c k).1) (k + 1) (oH (oH M2 (h_X7_copyState (mN M2) (mH M2) 0 0)) ((h_X7_moveOn (mH (oH M2 (h_X7_copyState (mN M2) (mH M2) 0 0))) c k).2))
def h_X7_helps (M : Mo) (c : Nat) (len : Int32) : Int32 × Mo :=
  lp_rHelps c len 81 (-1) 0 0 M
set_option maxHeartbeats 4000000 in
set_option maxRecDepth 100000 in
theorem c_X7_helps (l : Launch) (G : GG) (b : Nat) (M : Mo) (c : Nat) (len : Int32) (hRI : RI (mN M)) (hc : c < 40) : Met l yX7_helps wsX7_helps ({ frames := 4, cells := 0, slots := 0, locals := 91 }) (PcH G [.ref b, .int (nI c), .int len] (Md G b M)) (QM (some (.int ((h_X7_helps M c len).1))) (Md G b ((h_X7_helps M c len).2)) (blk b (b + 8))) 0 0 (blk b (b + 8)) := by
  refine metH (cc := cX7_helps) (maxL := 8) (ret := (some .int)) (by decide) rfl ?_
  intro p e s m below meth cd hx hb hr hml hown hts hlocks hP hO
  have hin7 : ∀ w ∈ u_ws RX7 TX7 12, w ∈ wsX7_helps := by decide +kernel
  have hf_13 := hts (.fieldLink RX7 13 "CurbCarsModel" "now" "[I") (by decide +kernel)
  have hf_19 := hts (.fieldLink RX7 19 "CurbCarsModel" "third" "[I") (by decide +kernel)
  have hA : ∀ q, (blk b (b + 8)) q → (blk b (b + 8)) q := fun _ h => h
  have hS : va_S (blk b (b + 8)) s.heap s.heap [] := va_S.rf
  have hl := lv_entry ([.ref b, .int (nI c), .int len]) (n := 8) (Nat.le_of_ble_eq_true rfl)
  rw [lg_entry_eq]
  generalize (lg_sl ([.ref b, .int (nI c), .int len]) ++ List.replicate (8 - (lg_sl ([.ref b, .int (nI c), .int len])).length) Slot.unset).toArray = ls at hl ⊢
  have hl : lv_has ls 8 [(0, .ref b), (1, .int (nI c)), (2, .int len)] := hl
  have loop8 : ∀ (n : Nat) (best : Int32) (least : Int32) (k : Nat) (M2 : Mo), k ≤ 80 → k + n = 81 → RI (mN M2) → h_X7_helps M c len = lp_rHelps c len n best least k M2 → ∀ (H : Heap) (locs : List Loc) (ls : Array Slot), Md G b M2 H → va_S (blk b (b + 8)) s.heap H locs → lv_has ls 8 [(0, .ref b), (1, .int (nI c)), (2, .int len), (3, .int best), (4, .int least), (5, .int (nI k))] → W p l e (headSpec wsX7_helps ({ frames := 4, cells := 0, slots := 0, locals := 91 } : Room)).room s m ([.ref b, .int (nI c), .int len] : List Value).toArray below meth cd H locs 0 0 (MQ below (QM (some (.int ((h_X7_helps M c len).1))) (Md G b ((h_X7_helps M c len).2)) (blk b (b + 8))) ([.ref b, .int (nI c), .int len] : List Value).toArray s 0 0 (blk b (b + 8))) (F0 m 8 ls []) := by
    intro n
    induction n with
    | zero =>
      intro best least k M2 hk hn hRI hR H locs ls hP hS hl
      exact absurd hn (by omega)
    | succ n ih =>
      intro best least k M2 hk hn hRI hR H locs ls hP hS hl
      refine lv_iload hx hb dX7_helps_8 (lv_at hl 5 rfl) ?_
      refine lv_bipush (v := 80) hx hb dX7_helps_10 (by decide) ?_
      refine lv_icmp_ge (tgt := 115) hx hb dX7_helps_12 (by decide) (fun c_1 => ?_) (fun c_1 => ?_)
      · refine lv_iload_n hx hb dX7_helps_115 rfl (lv_at hl 3 rfl) ?_
        have hE : h_X7_helps M c len = (best, M2) := (hR.trans (by rw [lp_rHelps, if_pos c_1]))
        have hE2 := snd_of hE
        exact W.iret hx hb hr (fun t ht hW => ⟨by rw [fst_of hE], by rw [ht, hE2]; exact hP, hS.F ht⟩) hS.2.2 dX7_helps_116
      · have hlt : k < 80 := kN (B := 80) c_1 (by omega) (by omega)
        refine lv_aload_n hx hb dX7_helps_15 rfl (lv_at hl 0 rfl) ?_
        refine va_get (D := G.1) (ci := 5) (v := .ref (b + 2)) (C := RX7) (T := TX7) (N := 12) hx hb hts hin7 hown hO.1 hP 0 rfl rfl 3 (by decide) hf_13 (fun _ h9 => h9) rfl dX7_helps_16 ?_
        refine lv_iload_n hx hb dX7_helps_19 rfl (lv_at hl 1 rfl) ?_
        refine lv_iload hx hb dX7_helps_20 (lv_at hl 5 rfl) ?_
        refine cl_pi (rS (As := [.ref (b + 2), .int (nI c), .int (nI k)]) (rest := []) ⟨hx, hb, hml, hown, hts⟩ (c_X7_canMove l G (b + 2) (mN M2) c k hRI.M hc hlt (fun z => (RI.P hRI (by omega) z).2)) (va_cwS 3 hts gX7_helps_X7_canMove rfl rfl rfl (by decide +kernel) ⟨Nat.le_of_ble_eq_true rfl, Nat.le_of_ble_eq_true rfl⟩) (va_P.sub hP [2] rfl) hO rfl hl.1 (Nat.le_of_ble_eq_true rfl) dX7_helps_22 ⟨Nat.le_of_ble_eq_true rfl, Nat.le_of_ble_eq_true rfl⟩) ?_
        refine lv_if_eq (tgt := 109) hx hb dX7_helps_25 (by decide) (fun c_2 => ?_) (fun c_2 => ?_)
        · refine lv_iinc (v := nI (k + 1)) (lv' := [(5, .int (nI (k + 1))), (0, .ref b), (1, .int (nI c)), (2, .int len), (3, .int best), (4, .int least)]) hx hb dX7_helps_109 hl (k := 5) rfl (nI_1 _) (by decide) rfl (fun ls hl => ?_)
          refine lv_goto (tgt := 8) hx hb dX7_helps_112 (by decide) ?_
          have hE_3 : h_X7_helps M c len = lp_rHelps c len n best least (k + 1) M2 := (hR.trans (by rw [lp_rHelps, if_neg c_1, if_pos c_2]))
          exact ih best least (k + 1) M2 (by omega) (by omega) hRI hE_3 _ _ _ hP hS (lv_sub hl [1, 2, 3, 4, 5, 0] rfl)
        · refine lv_aload_n hx hb dX7_helps_28 rfl (lv_at hl 0 rfl) ?_
          refine va_get (D := G.1) (ci := 5) (v := .ref (b + 2)) (C := RX7) (T := TX7) (N := 12) hx hb hts hin7 hown hO.1 hP 0 rfl rfl 3 (by decide) hf_13 (fun _ h9 => h9) rfl dX7_helps_29 ?_
          refine lv_iconst (v := 0) hx hb dX7_helps_32 (by decide) ?_
          refine lv_aload_n hx hb dX7_helps_33 rfl (lv_at hl 0 rfl) ?_
          refine va_get (D := G.1) (ci := 5) (v := .ref (b + 4)) (C := RX7) (T := TX7) (N := 12) hx hb hts hin7 hown hO.1 hP 0 rfl rfl 5 (by decide) hf_19 (fun _ h9 => h9) rfl dX7_helps_34 ?_
          refine lv_iconst (v := 0) hx hb dX7_helps_37 (by decide) ?_
          refine cl_mv (rS (As := [.ref (b + 2), .int 0, .ref (b + 4), .int 0]) (rest := []) ⟨hx, hb, hml, hown, hts⟩ (c_X7_copyState l G (b + 2) 327 (mN M2) (b + 4) 327 (mH M2) 0 0 (by omega) (by omega) (by decide) (by decide) (by omega)) (va_cwS 4 hts gX7_helps_X7_copyState rfl rfl rfl (by decide +kernel) ⟨Nat.le_of_ble_eq_true rfl, Nat.le_of_ble_eq_true rfl⟩) (va_P.sub hP [2, 4] rfl) hO rfl hl.1 (Nat.le_of_ble_eq_true rfl) dX7_helps_38 ⟨Nat.le_of_ble_eq_true rfl, Nat.le_of_ble_eq_true rfl⟩) hS (fun q h => hA q (by simp only [two, blk] at *; omega)) (fun H locs hP1 hz hk hS => ?_)
          have hP : Md G b (oH M2 (h_X7_copyState (mN M2) (mH M2) 0 0)) H := md_pH (two_row 2 4 hP (md_D b M2 hA) rfl rfl hP1 hk)
          refine lv_aload_n hx hb dX7_helps_41 rfl (lv_at hl 0 rfl) ?_
          refine va_get (D := G.1) (ci := 5) (v := .ref (b + 4)) (C := RX7) (T := TX7) (N := 12) hx hb hts hin7 hown hO.1 hP 0 rfl rfl 5 (by decide) hf_19 (fun _ h9 => h9) rfl dX7_helps_42 ?_
          refine lv_iload_n hx hb dX7_helps_45 rfl (lv_at hl 1 rfl) ?_
          refine lv_iload hx hb dX7_helps_46 (lv_at hl 5 rfl) ?_
          refine cl_mi (rS (As := [.ref (b + 4), .int (nI c), .int (nI k)]) (rest := []) ⟨hx, hb, hml, hown, hts⟩ (c_X7_moveOn l G (b + 4) (mH (oH M2 (h_X7_copyState (mN M2) (mH M2) 0 0))) c k hc (mv_cp (g := mN M2) (f := mH M2) hRI hc hlt (by assumption)).1 (mv_cp (g := mN M2) (f := mH M2) hRI hc hlt (by assumption)).2.1 (mv_cp (g := mN M2) (f := mH M2) hRI hc hlt (by assumption)).2.2.1 (mv_cp (g := mN M2) (f := mH M2) hRI hc hlt (by assumption)).2.2.2) (va_cwS 3 hts gX7_helps_X7_moveOn rfl rfl rfl (by decide +kernel) ⟨Nat.le_of_ble_eq_true rfl, Nat.le_of_ble_eq_true rfl⟩) (va_P.sub hP [4] rfl) hO rfl hl.1 (Nat.le_of_ble_eq_true rfl) dX7_helps_48 ⟨Nat.le_of_ble_eq_true rfl, Nat.le_of_ble_eq_true rfl⟩) hS (fun q h => hA q (by simp only [one, blk] at *; omega)) (fun H locs hP1 hz hk hS => ?_)
          have hP : Md G b (oH (oH M2 (h_X7_copyState (mN M2) (mH M2) 0 0)) ((h_X7_moveOn (mH (oH M2 (h_X7_copyState (mN M2) (mH M2) 0 0))) c k).2)) H := md_pH (mo_row 4 hP rfl hP1 hk)
          refine lv_istore (lv' := [(6, .int ((h_X7_moveOn (mH (oH M2 (h_X7_copyState (mN M2) (mH M2) 0 0))) c k).1)), (0, .ref b), (1, .int (nI c)), (2, .int len), (3, .int best), (4, .int least), (5, .int (nI k))]) hx hb dX7_helps_51 hl (by decide) rfl (fun ls hl => ?_)
          refine lv_aload_n hx hb dX7_helps_53 rfl (lv_at hl 1 rfl) ?_
          refine va_get (D := G.1) (ci := 5) (v := .ref (b + 4)) (C := RX7) (T := TX7) (N := 12) hx hb hts hin7 hown hO.1 hP 0 rfl rfl 5 (by decide) hf_19 (fun _ h9 => h9) rfl dX7_helps_54 ?_
          refine lv_iload_n hx hb dX7_helps_57 rfl (lv_at hl 3 rfl) ?_
          refine cl_pi (rS (As := [.ref (b + 4), .int len]) (rest := []) ⟨hx, hb, hml, hown, hts⟩ (c_X7_suffices l G (b + 4) (mH (oH (oH M2 (h_X7_copyState (mN M2) (mH M2) 0 0)) ((h_X7_moveOn (mH (oH M2 (h_X7_copyState (mN M2) (mH M2) 0 0))) c k).2))) len) (va_cwS 2 hts gX7_helps_X7_suffices rfl rfl rfl (by decide +kernel) ⟨Nat.le_of_ble_eq_true rfl, Nat.le_of_ble_eq_true rfl⟩) (va_P.sub hP [4] rfl) hO rfl hl.1 (Nat.le_of_ble_eq_true rfl) dX7_helps_58 ⟨Nat.le_of_ble_eq_true rfl, Nat.le_of_ble_eq_true rfl⟩) ?_
          refine lv_if_eq (tgt := 80) hx hb dX7_helps_61 (by decide) (fun c_4 => ?_) (fun c_4 => ?_)
          · refine lv_iconst (v := 0) hx hb dX7_helps_80 (by decide) ?_
            refine lv_istore (lv' := [(7, .int 0), (6, .int ((h_X7_moveOn (mH (oH M2 (h_X7_copyState (mN M2) (mH M2) 0 0))) c k).1)), (0, .ref b), (1, .int (nI c)), (2, .int len), (3, .int best), (4, .int least), (5, .int (nI k))]) hx hb dX7_helps_81 hl (by decide) rfl (fun ls hl => ?_)
            refine lv_iload hx hb dX7_helps_83 (lv_at hl 0 rfl) ?_
            refine lv_if_eq (tgt := 93) hx hb dX7_helps_85 (by decide) (fun c_5 => ?_) (fun c_5 => ?_)
            · refine lv_iload_n hx hb dX7_helps_93 rfl (lv_at hl 5 rfl) ?_
              refine lv_istore_n (lv' := [(3, .int best), (7, .int 0), (6, .int ((h_X7_moveOn (mH (oH M2 (h_X7_copyState (mN M2) (mH M2) 0 0))) c k).1)), (0, .ref b), (1, .int (nI c)), (2, .int len), (4, .int least), (5, .int (nI k))]) hx hb dX7_helps_94 rfl hl (by decide) rfl (fun ls hl => ?_)
              refine lv_iload hx hb dX7_helps_95 (lv_at hl 1 rfl) ?_
              refine lv_if_eq (tgt := 105) hx hb dX7_helps_97 (by decide) (fun c_6 => ?_) (fun c_6 => ?_)
              · refine lv_iload hx hb dX7_helps_105 (lv_at hl 6 rfl) ?_
                refine lv_istore (lv' := [(4, .int least), (3, .int best), (7, .int 0), (6, .int ((h_X7_moveOn (mH (oH M2 (h_X7_copyState (mN M2) (mH M2) 0 0))) c k).1)), (0, .ref b), (1, .int (nI c)), (2, .int len), (5, .int (nI k))]) hx hb dX7_helps_107 hl (by decide) rfl (fun ls hl => ?_)
                refine lv_iinc (v := nI (k + 1)) (lv' := [(5, .int (nI (k + 1))), (4, .int least), (3, .int best), (7, .int 0), (6, .int ((h_X7_moveOn (mH (oH M2 (h_X7_copyState (mN M2) (mH M2) 0 0))) c k).1)), (0, .ref b), (1, .int (nI c)), (2, .int len)]) hx hb dX7_helps_109 hl (k := 7) rfl (nI_1 _) (by decide) rfl (fun ls hl => ?_)
                refine lv_goto (tgt := 8) hx hb dX7_helps_112 (by decide) ?_
                have hE_7 : h_X7_helps M c len = lp_rHelps c len n best least (k + 1) (oH (oH M2 (h_X7_copyState (mN M2) (mH M2) 0 0)) ((h_X7_moveOn (mH (oH M2 (h_X7_copyState (mN M2) (mH M2) 0 0))) c k).2)) := (hR.trans (by rw [lp_rHelps, if_neg c_1, if_neg c_2, if_pos c_4]))
                exact ih best least (k + 1) (oH (oH M2 (h_X7_copyState (mN M2) (mH M2) 0 0)) ((h_X7_moveOn (mH (oH M2 (h_X7_copyState (mN M2) (mH M2) 0 0))) c k).2)) (by omega) (by omega) hRI hE_7 _ _ _ hP hS (lv_sub hl [5, 6, 7, 2, 1, 0] rfl)
              · exact absurd (by decide) c_6
            · exact absurd (by decide) c_5
          · refine lv_iload_n hx hb dX7_helps_64 rfl (lv_at hl 4 rfl) ?_
            refine lv_iconst (v := -1) hx hb dX7_helps_65 (by decide) ?_
            refine lv_icmp_eq (tgt := 76) hx hb dX7_helps_66 (by decide) (fun c_8 => ?_) (fun c_8 => ?_)
            · refine lv_iconst (v := 1) hx hb dX7_helps_76 (by decide) ?_
              refine lv_goto (tgt := 81) hx hb dX7_helps_77 (by decide) ?_
              refine lv_istore (lv' := [(7, .int 1), (6, .int ((h_X7_moveOn (mH (oH M2 (h_X7_copyState (mN M2) (mH M2) 0 0))) c k).1)), (0, .ref b), (1, .int (nI c)), (2, .int len), (3, .int best), (4, .int least), (5, .int (nI k))]) hx hb dX7_helps_81 hl (by decide) rfl (fun ls hl => ?_)
              refine lv_iload hx hb dX7_helps_83 (lv_at hl 0 rfl) ?_
              refine lv_if_eq (tgt := 93) hx hb dX7_helps_85 (by decide) (fun c_9 => ?_) (fun c_9 => ?_)
              · exact absurd c_9 (by decide)
              · refine lv_iload hx hb dX7_helps_88 (lv_at hl 7 rfl) ?_
                refine lv_goto (tgt := 94) hx hb dX7_helps_90 (by decide) ?_
                refine lv_istore_n (lv' := [(3, .int (nI k)), (7, .int 1), (6, .int ((h_X7_moveOn (mH (oH M2 (h_X7_copyState (mN M2) (mH M2) 0 0))) c k).1)), (0, .ref b), (1, .int (nI c)), (2, .int len), (4, .int least), (5, .int (nI k))]) hx hb dX7_helps_94 rfl hl (by decide) rfl (fun ls hl => ?_)
                refine lv_iload hx hb dX7_helps_95 (lv_at hl 1 rfl) ?_
                refine lv_if_eq (tgt := 105) hx hb dX7_helps_97 (by decide) (fun c_10 => ?_) (fun c_10 => ?_)
                · exact absurd c_10 (by decide)
                · refine lv_iload hx hb dX7_helps_100 (lv_at hl 2 rfl) ?_
                  refine lv_goto (tgt := 107) hx hb dX7_helps_102 (by decide) ?_
                  refine lv_istore (lv' := [(4, .int ((h_X7_moveOn (mH (oH M2 (h_X7_copyState (mN M2) (mH M2) 0 0))) c k).1)), (3, .int (nI k)), (7, .int 1), (6, .int ((h_X7_moveOn (mH (oH M2 (h_X7_copyState (mN M2) (mH M2) 0 0))) c k).1)), (0, .ref b), (1, .int (nI c)), (2, .int len), (5, .int (nI k))]) hx hb dX7_helps_107 hl (by decide) rfl (fun ls hl => ?_)
                  refine lv_iinc (v := nI (k + 1)) (lv' := [(5, .int (nI (k + 1))), (4, .int ((h_X7_moveOn (mH (oH M2 (h_X7_copyState (mN M2) (mH M2) 0 0))) c k).1)), (3, .int (nI k)), (7, .int 1), (6, .int ((h_X7_moveOn (mH (oH M2 (h_X7_copyState (mN M2) (mH M2) 0 0))) c k).1)), (0, .ref b), (1, .int (nI c)), (2, .int len)]) hx hb dX7_helps_109 hl (k := 7) rfl (nI_1 _) (by decide) rfl (fun ls hl => ?_)
                  refine lv_goto (tgt := 8) hx hb dX7_helps_112 (by decide) ?_
                  have hE_11 : h_X7_helps M c len = lp_rHelps c len n (nI k) ((h_X7_moveOn (mH (oH M2 (h_X7_copyState (mN M2) (mH M2) 0 0))) c k).1) (k + 1) (oH (oH M2 (h_X7_copyState (mN M2) (mH M2) 0 0)) ((h_X7_moveOn (mH (oH M2 (h_X7_copyState (mN M2) (mH M2) 0 0))) c k).2)) := (hR.trans (by rw [lp_rHelps, if_neg c_1, if_neg c_2, if_neg c_4, if_pos c_8]))
                  exact ih (nI k) ((h_X7_moveOn (mH (oH M2 (h_X7_copyState (mN M2) (mH M2) 0 0))) c k).1) (k + 1) (oH (oH M2 (h_X7_copyState (mN M2) (mH M2) 0 0)) ((h_X7_moveOn (mH (oH M2 (h_X7_copyState (mN M2) (mH M2) 0 0))) c k).2)) (by omega) (by omega) hRI hE_11 _ _ _ hP hS (lv_sub hl [5, 6, 7, 2, 1, 0] rfl)
            · refine lv_iload hx hb dX7_helps_69 (lv_at hl 0 rfl) ?_
              refine lv_iload hx hb dX7_helps_71 (lv_at hl 5 rfl) ?_
              refine lv_icmp_ge (tgt := 80) hx hb dX7_helps_73 (by decide) (fun c_12 => ?_) (fun c_12 => ?_)
              · refine lv_iconst (v := 0) hx hb dX7_helps_80 (by decide) ?_
                refine lv_istore (lv' := [(7, .int 0), (6, .int ((h_X7_moveOn (mH (oH M2 (h_X7_copyState (mN M2) (mH M2) 0 0))) c k).1)), (0, .ref b), (1, .int (nI c)), (2, .int len), (3, .int best), (4, .int least), (5, .int (nI k))]) hx hb dX7_helps_81 hl (by decide) rfl (fun ls hl => ?_)
                refine lv_iload hx hb dX7_helps_83 (lv_at hl 0 rfl) ?_
                refine lv_if_eq (tgt := 93) hx hb dX7_helps_85 (by decide) (fun c_13 => ?_) (fun c_13 => ?_)
                · refine lv_iload_n hx hb dX7_helps_93 rfl (lv_at hl 5 rfl) ?_
                  refine lv_istore_n (lv' := [(3, .int best), (7, .int 0), (6, .int ((h_X7_moveOn (mH (oH M2 (h_X7_copyState (mN M2) (mH M2) 0 0))) c k).1)), (0, .ref b), (1, .int (nI c)), (2, .int len), (4, .int least), (5, .int (nI k))]) hx hb dX7_helps_94 rfl hl (by decide) rfl (fun ls hl => ?_)
                  refine lv_iload hx hb dX7_helps_95 (lv_at hl 1 rfl) ?_
                  refine lv_if_eq (tgt := 105) hx hb dX7_helps_97 (by decide) (fun c_14 => ?_) (fun c_14 => ?_)
                  · refine lv_iload hx hb dX7_helps_105 (lv_at hl 6 rfl) ?_
                    refine lv_istore (lv' := [(4, .int least), (3, .int best), (7, .int 0), (6, .int ((h_X7_moveOn (mH (oH M2 (h_X7_copyState (mN M2) (mH M2) 0 0))) c k).1)), (0, .ref b), (1, .int (nI c)), (2, .int len), (5, .int (nI k))]) hx hb dX7_helps_107 hl (by decide) rfl (fun ls hl => ?_)
                    refine lv_iinc (v := nI (k + 1)) (lv' := [(5, .int (nI (k + 1))), (4, .int least), (3, .int best), (7, .int 0), (6, .int ((h_X7_moveOn (mH (oH M2 (h_X7_copyState (mN M2) (mH M2) 0 0))) c k).1)), (0, .ref b), (1, .int (nI c)), (2, .int len)]) hx hb dX7_helps_109 hl (k := 7) rfl (nI_1 _) (by decide) rfl (fun ls hl => ?_)
                    refine lv_goto (tgt := 8) hx hb dX7_helps_112 (by decide) ?_
                    have hE_15 : h_X7_helps M c len = lp_rHelps c len n best least (k + 1) (oH (oH M2 (h_X7_copyState (mN M2) (mH M2) 0 0)) ((h_X7_moveOn (mH (oH M2 (h_X7_copyState (mN M2) (mH M2) 0 0))) c k).2)) := (hR.trans (by rw [lp_rHelps, if_neg c_1, if_neg c_2, if_neg c_4, if_neg c_8, if_pos c_12]))
                    exact ih best least (k + 1) (oH (oH M2 (h_X7_copyState (mN M2) (mH M2) 0 0)) ((h_X7_moveOn (mH (oH M2 (h_X7_copyState (mN M2) (mH M2) 0 0))) c k).2)) (by omega) (by omega) hRI hE_15 _ _ _ hP hS (lv_sub hl [5, 6, 7, 2, 1, 0] rfl)
                  · exact absurd (by decide) c_14
                · exact absurd (by decide) c_13
              · refine lv_iconst (v := 1) hx hb dX7_helps_76 (by decide) ?_
                refine lv_goto (tgt := 81) hx hb dX7_helps_77 (by decide) ?_
                refine lv_istore (lv' := [(7, .int 1), (6, .int ((h_X7_moveOn (mH (oH M2 (h_X7_copyState (mN M2) (mH M2) 0 0))) c k).1)), (0, .ref b), (1, .int (nI c)), (2, .int len), (3, .int best), (4, .int least), (5, .int (nI k))]) hx hb dX7_helps_81 hl (by decide) rfl (fun ls hl => ?_)
                refine lv_iload hx hb dX7_helps_83 (lv_at hl 0 rfl) ?_
                refine lv_if_eq (tgt := 93) hx hb dX7_helps_85 (by decide) (fun c_16 => ?_) (fun c_16 => ?_)
                · exact absurd c_16 (by decide)
                · refine lv_iload hx hb dX7_helps_88 (lv_at hl 7 rfl) ?_
                  refine lv_goto (tgt := 94) hx hb dX7_helps_90 (by decide) ?_
                  refine lv_istore_n (lv' := [(3, .int (nI k)), (7, .int 1), (6, .int ((h_X7_moveOn (mH (oH M2 (h_X7_copyState (mN M2) (mH M2) 0 0))) c k).1)), (0, .ref b), (1, .int (nI c)), (2, .int len), (4, .int least), (5, .int (nI k))]) hx hb dX7_helps_94 rfl hl (by decide) rfl (fun ls hl => ?_)
                  refine lv_iload hx hb dX7_helps_95 (lv_at hl 1 rfl) ?_
                  refine lv_if_eq (tgt := 105) hx hb dX7_helps_97 (by decide) (fun c_17 => ?_) (fun c_17 => ?_)
                  · exact absurd c_17 (by decide)
                  · refine lv_iload hx hb dX7_helps_100 (lv_at hl 2 rfl) ?_
                    refine lv_goto (tgt := 107) hx hb dX7_helps_102 (by decide) ?_
                    refine lv_istore (lv' := [(4, .int ((h_X7_moveOn (mH (oH M2 (h_X7_copyState (mN M2) (mH M2) 0 0))) c k).1)), (3, .int (nI k)), (7, .int 1), (6, .int ((h_X7_moveOn (mH (oH M2 (h_X7_copyState (mN M2) (mH M2) 0 0))) c k).1)), (0, .ref b), (1, .int (nI c)), (2, .int len), (5, .int (nI k))]) hx hb dX7_helps_107 hl (by decide) rfl (fun ls hl => ?_)
                    refine lv_iinc (v := nI (k + 1)) (lv' := [(5, .int (nI (k + 1))), (4, .int ((h_X7_moveOn (mH (oH M2 (h_X7_copyState (mN M2) (mH M2) 0 0))) c k).1)), (3, .int (nI k)), (7, .int 1), (6, .int ((h_X7_moveOn (mH (oH M2 (h_X7_copyState (mN M2) (mH M2) 0 0))) c k).1)), (0, .ref b), (1, .int (nI c)), (2, .int len)]) hx hb dX7_helps_109 hl (k := 7) rfl (nI_1 _) (by decide) rfl (fun ls hl => ?_)
                    refine lv_goto (tgt := 8) hx hb dX7_helps_112 (by decide) ?_
                    have hE_18 : h_X7_helps M c len = lp_rHelps c len n (nI k) ((h_X7_moveOn (mH (oH M2 (h_X7_copyState (mN M2) (mH M2) 0 0))) c k).1) (k + 1) (oH (oH M2 (h_X7_copyState (mN M2) (mH M2) 0 0)) ((h_X7_moveOn (mH (oH M2 (h_X7_copyState (mN M2) (mH M2) 0 0))) c k).2)) := (hR.trans (by rw [lp_rHelps, if_neg c_1, if_neg c_2, if_neg c_4, if_neg c_8, if_neg c_12]))
                    exact ih (nI k) ((h_X7_moveOn (mH (oH M2 (h_X7_copyState (mN M2) (mH M2) 0 0))) c k).1) (k + 1) (oH (oH M2 (h_X7_copyState (mN M2) (mH M2) 0 0)) ((h_X7_moveOn (mH (oH M2 (h_X7_copyState (mN M2) (mH M2) 0 0))) c k).2)) (by omega) (by omega) hRI hE_18 _ _ _ hP hS (lv_sub hl [5, 6, 7, 2, 1, 0] rfl)
  refine lv_iconst (v := -1) hx hb dX7_helps_0 (by decide) ?_
  refine lv_istore_n (lv' := [(3, .int (-1)), (0, .ref b), (1, .int (nI c)), (2, .int len)]) hx hb dX7_helps_1 rfl hl (by decide) rfl (fun ls hl => ?_)
  refine lv_iconst (v := 0) hx hb dX7_helps_2 (by decide) ?_
  refine lv_istore (lv' := [(4, .int 0), (3, .int (-1)), (0, .ref b), (1, .int (nI c)), (2, .int len)]) hx hb dX7_helps_3 hl (by decide) rfl (fun ls hl => ?_)
  refine lv_iconst (v := 0) hx hb dX7_helps_5 (by decide) ?_
  refine lv_istore (lv' := [(5, .int 0), (4, .int 0), (3, .int (-1)), (0, .ref b), (1, .int (nI c)), (2, .int len)]) hx hb dX7_helps_6 hl (by decide) rfl (fun ls hl => ?_)
  have hE_19 : h_X7_helps M c len = lp_rHelps c len 81 (-1) 0 0 M := (by rw [h_X7_helps])
  exact loop8 81 (-1) 0 0 M (Nat.zero_le _) (by omega) hRI hE_19 _ _ _ hP hS (lv_sub hl [3, 4, 5, 2, 1, 0] rfl)

theorem rHelps_N (c : Nat) (len : Int32) : ∀ (n : Nat) (best least : Int32) (k : Nat) (M2 : Mo), mN (lp_rHelps c len n best least k M2).2 = mN M2 := by
  intro n
  induction n with
  | zero => intro best least k M2; rfl
  | succ n ih =>
    intro best least k M2
    rw [lp_rHelps]
    repeat' split
    all_goals (try rw [ih])
    all_goals (try simp only [mN_oH])
theorem helps_N (M : Mo) (c : Nat) (len : Int32) : mN (h_X7_helps M c len).2 = mN M := rHelps_N ..

def lp_rMover (M : Mo) (len w : Int32) : Nat → Nat → Mo → Int32 × Mo
  | 0, _, M2 => (-1, M2)
  | n + 1, k, M2 => if ((mN M2) 0) ≤ (nI k) then ((-1), M2) else
    if (f_X7_suffices (mN M2) len) = 0 then (if (f_X7_isParked (mN M2) (nI k)) = 0 then lp_rMover M len w n (k + 1) M2 else
      if ((h_X7_helps M2 k len).1) = (-1) then lp_rMover M len w n (k + 1) ((h_X7_helps M2 k len).2) else
      if w = 0 then (nI k, (h_X7_helps M2 k len).2) else
      ((h_X7_helps M2 k len).1, (h_X7_helps M2 k len).2)) else
    ((-1), M2)
def h_X7_mover (M : Mo) (len : Int32) (w : Int32) : Int32 × Mo :=
  if (f_X7_isLength len) = 0 then (0, (h_X7_refused M 1).2) else
  if (f_X7_in w.toInt64 0 1) = 0 then (0, (h_X7_refused M 1).2) else
  lp_rMover M len w (gm (mN M) + 1) 0 ((h_X7_refused M 0).2)
set_option maxHeartbeats 4000000 in
set_option maxRecDepth 100000 in
theorem c_X7_mover (l : Launch) (G : GG) (b : Nat) (M : Mo) (len : Int32) (w : Int32) (hRI : RI (mN M)) : Met l yX7_mover wsX7_mover ({ frames := 5, cells := 0, slots := 0, locals := 118 }) (PcH G [.ref b, .int len, .int w] (Md G b M)) (QM (some (.int ((h_X7_mover M len w).1))) (Md G b ((h_X7_mover M len w).2)) (blk b (b + 8))) 0 0 (blk b (b + 8)) := by
  refine metH (cc := cX7_mover) (maxL := 5) (ret := (some .int)) (by decide) rfl ?_
  intro p e s m below meth cd hx hb hr hml hown hts hlocks hP hO
  have hin7 : ∀ w ∈ u_ws RX7 TX7 12, w ∈ wsX7_mover := by decide +kernel
  have hf_13 := hts (.fieldLink RX7 13 "CurbCarsModel" "now" "[I") (by decide +kernel)
  have hA : ∀ q, (blk b (b + 8)) q → (blk b (b + 8)) q := fun _ h => h
  have hS : va_S (blk b (b + 8)) s.heap s.heap [] := va_S.rf
  have hl := lv_entry ([.ref b, .int len, .int w]) (n := 5) (Nat.le_of_ble_eq_true rfl)
  rw [lg_entry_eq]
  generalize (lg_sl ([.ref b, .int len, .int w]) ++ List.replicate (5 - (lg_sl ([.ref b, .int len, .int w])).length) Slot.unset).toArray = ls at hl ⊢
  have hl : lv_has ls 5 [(0, .ref b), (1, .int len), (2, .int w)] := hl
  have loop33 : ∀ (n : Nat) (k : Nat) (M2 : Mo), k ≤ gm (mN M) → k + n = gm (mN M) + 1 → mN M2 = mN M → RI (mN M2) → h_X7_mover M len w = lp_rMover M len w n k M2 → ∀ (H : Heap) (locs : List Loc) (ls : Array Slot), Md G b M2 H → va_S (blk b (b + 8)) s.heap H locs → lv_has ls 5 [(0, .ref b), (1, .int len), (2, .int w), (3, .int (nI k))] → W p l e (headSpec wsX7_mover ({ frames := 5, cells := 0, slots := 0, locals := 118 } : Room)).room s m ([.ref b, .int len, .int w] : List Value).toArray below meth cd H locs 0 0 (MQ below (QM (some (.int ((h_X7_mover M len w).1))) (Md G b ((h_X7_mover M len w).2)) (blk b (b + 8))) ([.ref b, .int len, .int w] : List Value).toArray s 0 0 (blk b (b + 8))) (F0 m 33 ls []) := by
    intro n
    induction n with
    | zero =>
      intro k M2 hk hn hM2 hRI hR H locs ls hP hS hl
      exact absurd hn (by omega)
    | succ n ih =>
      intro k M2 hk hn hM2 hRI hR H locs ls hP hS hl
      refine lv_iload_n hx hb dX7_mover_33 rfl (lv_at hl 3 rfl) ?_
      refine lv_aload_n hx hb dX7_mover_34 rfl (lv_at hl 0 rfl) ?_
      refine va_get (D := G.1) (ci := 5) (v := .ref (b + 2)) (C := RX7) (T := TX7) (N := 12) hx hb hts hin7 hown hO.1 hP 0 rfl rfl 3 (by decide) hf_13 (fun _ h9 => h9) rfl dX7_mover_35 ?_
      refine lv_iconst (v := 0) hx hb dX7_mover_38 (by decide) ?_
      refine iald_n (k := 0) hx hb hO.1 hP 2 0 rfl rfl (by omega) (by decide) dX7_mover_39 ?_
      refine lv_icmp_ge (tgt := 100) hx hb dX7_mover_40 (by decide) (fun c_1 => ?_) (fun c_1 => ?_)
      · refine lv_iconst (v := -1) hx hb dX7_mover_100 (by decide) ?_
        have hE : h_X7_mover M len w = ((-1), M2) := (hR.trans (by rw [lp_rMover, if_pos c_1]))
        have hE2 := snd_of hE
        exact W.iret hx hb hr (fun t ht hW => ⟨by rw [fst_of hE], by rw [ht, hE2]; exact hP, hS.F ht⟩) hS.2.2 dX7_mover_101
      · have hlt : k < gm (mN M) ∧ k < 40 := (by have h8 := hRI.m.2; have h9 : k < gm (mN M2) := kV c_1 (by rw [hM2] at h8; omega); rw [hM2] at h9 h8; omega)
        refine lv_aload_n hx hb dX7_mover_43 rfl (lv_at hl 0 rfl) ?_
        refine va_get (D := G.1) (ci := 5) (v := .ref (b + 2)) (C := RX7) (T := TX7) (N := 12) hx hb hts hin7 hown hO.1 hP 0 rfl rfl 3 (by decide) hf_13 (fun _ h9 => h9) rfl dX7_mover_44 ?_
        refine lv_iload_n hx hb dX7_mover_47 rfl (lv_at hl 1 rfl) ?_
        refine cl_pi (rS (As := [.ref (b + 2), .int len]) (rest := []) ⟨hx, hb, hml, hown, hts⟩ (c_X7_suffices l G (b + 2) (mN M2) len) (va_cwS 2 hts gX7_mover_X7_suffices rfl rfl rfl (by decide +kernel) ⟨Nat.le_of_ble_eq_true rfl, Nat.le_of_ble_eq_true rfl⟩) (va_P.sub hP [2] rfl) hO rfl hl.1 (Nat.le_of_ble_eq_true rfl) dX7_mover_48 ⟨Nat.le_of_ble_eq_true rfl, Nat.le_of_ble_eq_true rfl⟩) ?_
        refine lv_if_ne (tgt := 100) hx hb dX7_mover_51 (by decide) (fun c_2 => ?_) (fun c_2 => ?_)
        · refine lv_iconst (v := -1) hx hb dX7_mover_100 (by decide) ?_
          have hE : h_X7_mover M len w = ((-1), M2) := (hR.trans (by rw [lp_rMover, if_neg c_1, if_neg c_2]))
          have hE2 := snd_of hE
          exact W.iret hx hb hr (fun t ht hW => ⟨by rw [fst_of hE], by rw [ht, hE2]; exact hP, hS.F ht⟩) hS.2.2 dX7_mover_101
        · refine lv_aload_n hx hb dX7_mover_54 rfl (lv_at hl 0 rfl) ?_
          refine va_get (D := G.1) (ci := 5) (v := .ref (b + 2)) (C := RX7) (T := TX7) (N := 12) hx hb hts hin7 hown hO.1 hP 0 rfl rfl 3 (by decide) hf_13 (fun _ h9 => h9) rfl dX7_mover_55 ?_
          refine lv_iload_n hx hb dX7_mover_58 rfl (lv_at hl 3 rfl) ?_
          refine cl_pi (rS (As := [.ref (b + 2), .int (nI k)]) (rest := []) ⟨hx, hb, hml, hown, hts⟩ (c_X7_isParked l G (b + 2) (mN M2) (nI k) hRI.M) (va_cwS 2 hts gX7_mover_X7_isParked rfl rfl rfl (by decide +kernel) ⟨Nat.le_of_ble_eq_true rfl, Nat.le_of_ble_eq_true rfl⟩) (va_P.sub hP [2] rfl) hO rfl hl.1 (Nat.le_of_ble_eq_true rfl) dX7_mover_59 ⟨Nat.le_of_ble_eq_true rfl, Nat.le_of_ble_eq_true rfl⟩) ?_
          refine lv_if_eq (tgt := 74) hx hb dX7_mover_62 (by decide) (fun c_3 => ?_) (fun c_3 => ?_)
          · refine lv_iconst (v := -1) hx hb dX7_mover_74 (by decide) ?_
            refine lv_istore (lv' := [(4, .int (-1)), (0, .ref b), (1, .int len), (2, .int w), (3, .int (nI k))]) hx hb dX7_mover_75 hl (by decide) rfl (fun ls hl => ?_)
            refine lv_iload hx hb dX7_mover_77 (lv_at hl 0 rfl) ?_
            refine lv_iconst (v := -1) hx hb dX7_mover_79 (by decide) ?_
            refine lv_icmp_eq (tgt := 94) hx hb dX7_mover_80 (by decide) (fun c_4 => ?_) (fun c_4 => ?_)
            · refine lv_iinc (v := nI (k + 1)) (lv' := [(3, .int (nI (k + 1))), (4, .int (-1)), (0, .ref b), (1, .int len), (2, .int w)]) hx hb dX7_mover_94 hl (k := 4) rfl (nI_1 _) (by decide) rfl (fun ls hl => ?_)
              refine lv_goto (tgt := 33) hx hb dX7_mover_97 (by decide) ?_
              have hE_5 : h_X7_mover M len w = lp_rMover M len w n (k + 1) M2 := (hR.trans (by rw [lp_rMover, if_neg c_1, if_pos c_2, if_pos c_3]))
              exact ih (k + 1) M2 (by omega) (by omega) hM2 hRI hE_5 _ _ _ hP hS (lv_sub hl [2, 3, 4, 0] rfl)
            · exact absurd (by decide) c_4
          · refine lv_aload_n hx hb dX7_mover_65 rfl (lv_at hl 0 rfl) ?_
            refine lv_iload_n hx hb dX7_mover_66 rfl (lv_at hl 3 rfl) ?_
            refine lv_iload_n hx hb dX7_mover_67 rfl (lv_at hl 1 rfl) ?_
            refine cl_mi (rV (As := [.int (nI k), .int len]) (rest := []) ⟨hx, hb, hml, hown, hts⟩ (c_X7_helps l G b M2 k len hRI hlt.2) (cwV 2 hts gX7_mover_X7_helps rfl rfl rfl (by decide +kernel) ⟨Nat.le_of_ble_eq_true rfl, Nat.le_of_ble_eq_true rfl⟩) (md_recv hO hP) hP hO rfl hl.1 (Nat.le_of_ble_eq_true rfl) dX7_mover_68 ⟨Nat.le_of_ble_eq_true rfl, Nat.le_of_ble_eq_true rfl⟩) hS hA (fun H locs hP1 hz hk hS => ?_)
            have hP : Md G b ((h_X7_helps M2 k len).2) H := hP1
            refine lv_goto (tgt := 75) hx hb dX7_mover_71 (by decide) ?_
            refine lv_istore (lv' := [(4, .int ((h_X7_helps M2 k len).1)), (0, .ref b), (1, .int len), (2, .int w), (3, .int (nI k))]) hx hb dX7_mover_75 hl (by decide) rfl (fun ls hl => ?_)
            refine lv_iload hx hb dX7_mover_77 (lv_at hl 0 rfl) ?_
            refine lv_iconst (v := -1) hx hb dX7_mover_79 (by decide) ?_
            refine lv_icmp_eq (tgt := 94) hx hb dX7_mover_80 (by decide) (fun c_6 => ?_) (fun c_6 => ?_)
            · refine lv_iinc (v := nI (k + 1)) (lv' := [(3, .int (nI (k + 1))), (4, .int ((h_X7_helps M2 k len).1)), (0, .ref b), (1, .int len), (2, .int w)]) hx hb dX7_mover_94 hl (k := 4) rfl (nI_1 _) (by decide) rfl (fun ls hl => ?_)
              refine lv_goto (tgt := 33) hx hb dX7_mover_97 (by decide) ?_
              have hE_7 : h_X7_mover M len w = lp_rMover M len w n (k + 1) ((h_X7_helps M2 k len).2) := (hR.trans (by rw [lp_rMover, if_neg c_1, if_pos c_2, if_neg c_3, if_pos c_6]))
              exact ih (k + 1) ((h_X7_helps M2 k len).2) (by omega) (by omega) ((helps_N ..).trans hM2) (by rw [helps_N]; exact hRI) hE_7 _ _ _ hP hS (lv_sub hl [2, 3, 4, 0] rfl)
            · refine lv_iload_n hx hb dX7_mover_83 rfl (lv_at hl 3 rfl) ?_
              refine lv_if_ne (tgt := 91) hx hb dX7_mover_84 (by decide) (fun c_8 => ?_) (fun c_8 => ?_)
              · refine lv_iload hx hb dX7_mover_91 (lv_at hl 0 rfl) ?_
                have hE : h_X7_mover M len w = ((h_X7_helps M2 k len).1, (h_X7_helps M2 k len).2) := (hR.trans (by rw [lp_rMover, if_neg c_1, if_pos c_2, if_neg c_3, if_neg c_6, if_neg c_8]))
                have hE2 := snd_of hE
                exact W.iret hx hb hr (fun t ht hW => ⟨by rw [fst_of hE], by rw [ht, hE2]; exact hP, hS.F ht⟩) hS.2.2 dX7_mover_93
              · refine lv_iload_n hx hb dX7_mover_87 rfl (lv_at hl 4 rfl) ?_
                refine lv_goto (tgt := 93) hx hb dX7_mover_88 (by decide) ?_
                have hE : h_X7_mover M len w = (nI k, (h_X7_helps M2 k len).2) := (hR.trans (by rw [lp_rMover, if_neg c_1, if_pos c_2, if_neg c_3, if_neg c_6, if_pos c_8]))
                have hE2 := snd_of hE
                exact W.iret hx hb hr (fun t ht hW => ⟨by rw [fst_of hE], by rw [ht, hE2]; exact hP, hS.F ht⟩) hS.2.2 dX7_mover_93
  refine lv_aload_n hx hb dX7_mover_0 rfl (lv_at hl 0 rfl) ?_
  refine lv_iload_n hx hb dX7_mover_1 rfl (lv_at hl 1 rfl) ?_
  refine cl_pi (rS (As := [.int len]) (rest := [.ref b]) ⟨hx, hb, hml, hown, hts⟩ (c_X7_isLength l G len) (va_cwS 1 hts gX7_mover_X7_isLength rfl rfl rfl (by decide +kernel) ⟨Nat.le_of_ble_eq_true rfl, Nat.le_of_ble_eq_true rfl⟩) trivial hO rfl hl.1 (Nat.le_of_ble_eq_true rfl) dX7_mover_2 ⟨Nat.le_of_ble_eq_true rfl, Nat.le_of_ble_eq_true rfl⟩) ?_
  refine lv_if_eq (tgt := 22) hx hb dX7_mover_5 (by decide) (fun c_9 => ?_) (fun c_9 => ?_)
  · refine lv_iconst (v := 1) hx hb dX7_mover_22 (by decide) ?_
    refine cl_mi (rV (As := [.int 1]) (rest := []) ⟨hx, hb, hml, hown, hts⟩ (c_X7_refused l G b M 1) (cwV 1 hts gX7_mover_X7_refused rfl rfl rfl (by decide +kernel) ⟨Nat.le_of_ble_eq_true rfl, Nat.le_of_ble_eq_true rfl⟩) (md_recv hO hP) hP hO rfl hl.1 (Nat.le_of_ble_eq_true rfl) dX7_mover_23 ⟨Nat.le_of_ble_eq_true rfl, Nat.le_of_ble_eq_true rfl⟩) hS hA (fun H locs hP1 hz hk hS => ?_)
    have hP : Md G b ((h_X7_refused M 1).2) H := hP1
    refine lv_if_eq (tgt := 31) hx hb dX7_mover_26 (by decide) (fun c_10 => ?_) (fun c_10 => ?_)
    · exact absurd c_10 (ref_p1 _)
    · refine lv_iconst (v := 0) hx hb dX7_mover_29 (by decide) ?_
      have hE : h_X7_mover M len w = (0, (h_X7_refused M 1).2) := (by rw [h_X7_mover, if_pos c_9])
      have hE2 := snd_of hE
      exact W.iret hx hb hr (fun t ht hW => ⟨by rw [fst_of hE], by rw [ht, hE2]; exact hP, hS.F ht⟩) hS.2.2 dX7_mover_30
  · refine lv_iload_n hx hb dX7_mover_8 rfl (lv_at hl 2 rfl) ?_
    refine lv_i2l (v := w.toInt64) hx hb dX7_mover_9 rfl ?_
    refine lv_lconst (v := 0) hx hb dX7_mover_10 (by decide) ?_
    refine lv_lconst (v := 1) hx hb dX7_mover_11 (by decide) ?_
    refine cl_pi (rS (As := [.long w.toInt64, .long 0, .long 1]) (rest := [.ref b]) ⟨hx, hb, hml, hown, hts⟩ (c_X7_in l G w.toInt64 0 1) (va_cwS 3 hts gX7_mover_X7_in rfl rfl rfl (by decide +kernel) ⟨Nat.le_of_ble_eq_true rfl, Nat.le_of_ble_eq_true rfl⟩) trivial hO rfl hl.1 (Nat.le_of_ble_eq_true rfl) dX7_mover_12 ⟨Nat.le_of_ble_eq_true rfl, Nat.le_of_ble_eq_true rfl⟩) ?_
    refine lv_if_eq (tgt := 22) hx hb dX7_mover_15 (by decide) (fun c_11 => ?_) (fun c_11 => ?_)
    · refine lv_iconst (v := 1) hx hb dX7_mover_22 (by decide) ?_
      refine cl_mi (rV (As := [.int 1]) (rest := []) ⟨hx, hb, hml, hown, hts⟩ (c_X7_refused l G b M 1) (cwV 1 hts gX7_mover_X7_refused rfl rfl rfl (by decide +kernel) ⟨Nat.le_of_ble_eq_true rfl, Nat.le_of_ble_eq_true rfl⟩) (md_recv hO hP) hP hO rfl hl.1 (Nat.le_of_ble_eq_true rfl) dX7_mover_23 ⟨Nat.le_of_ble_eq_true rfl, Nat.le_of_ble_eq_true rfl⟩) hS hA (fun H locs hP1 hz hk hS => ?_)
      have hP : Md G b ((h_X7_refused M 1).2) H := hP1
      refine lv_if_eq (tgt := 31) hx hb dX7_mover_26 (by decide) (fun c_12 => ?_) (fun c_12 => ?_)
      · exact absurd c_12 (ref_p1 _)
      · refine lv_iconst (v := 0) hx hb dX7_mover_29 (by decide) ?_
        have hE : h_X7_mover M len w = (0, (h_X7_refused M 1).2) := (by rw [h_X7_mover, if_neg c_9, if_pos c_11])
        have hE2 := snd_of hE
        exact W.iret hx hb hr (fun t ht hW => ⟨by rw [fst_of hE], by rw [ht, hE2]; exact hP, hS.F ht⟩) hS.2.2 dX7_mover_30
    · refine lv_iconst (v := 0) hx hb dX7_mover_18 (by decide) ?_
      refine lv_goto (tgt := 23) hx hb dX7_mover_19 (by decide) ?_
      refine cl_mi (rV (As := [.int 0]) (rest := []) ⟨hx, hb, hml, hown, hts⟩ (c_X7_refused l G b M 0) (cwV 1 hts gX7_mover_X7_refused rfl rfl rfl (by decide +kernel) ⟨Nat.le_of_ble_eq_true rfl, Nat.le_of_ble_eq_true rfl⟩) (md_recv hO hP) hP hO rfl hl.1 (Nat.le_of_ble_eq_true rfl) dX7_mover_23 ⟨Nat.le_of_ble_eq_true rfl, Nat.le_of_ble_eq_true rfl⟩) hS hA (fun H locs hP1 hz hk hS => ?_)
      have hP : Md G b ((h_X7_refused M 0).2) H := hP1
      refine lv_if_eq (tgt := 31) hx hb dX7_mover_26 (by decide) (fun c_13 => ?_) (fun c_13 => ?_)
      · refine lv_iconst (v := 0) hx hb dX7_mover_31 (by decide) ?_
        refine lv_istore_n (lv' := [(3, .int 0), (0, .ref b), (1, .int len), (2, .int w)]) hx hb dX7_mover_32 rfl hl (by decide) rfl (fun ls hl => ?_)
        have hE_14 : h_X7_mover M len w = lp_rMover M len w (gm (mN M) + 1) 0 ((h_X7_refused M 0).2) := (by rw [h_X7_mover, if_neg c_9, if_neg c_11])
        exact loop33 (gm (mN M) + 1) 0 ((h_X7_refused M 0).2) (Nat.zero_le _) (by omega) (ref_N ..) (by rw [ref_N]; exact hRI) hE_14 _ _ _ hP hS (lv_sub hl [1, 2, 3, 0] rfl)
      · exact absurd (ref_0 _) c_13
