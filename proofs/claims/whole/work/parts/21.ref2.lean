theorem c_X7_gapCells_raw (l : Launch) (G : GG) (a : Nat) (g : Rw) (x : Int32) (hx : ∃ j, j ≤ 80 ∧ x = nI j) : Met l yX7_gapCells wsX7_gapCells ({ frames := 0, cells := 0, slots := 0, locals := 0 }) (PcH G [.ref a, .int x] (Arr G 0 a 327 g)) (QP (some (.int (nI (f_X7_gapCells g x.toNatClampNeg))))) 0 0 noA := by
  obtain ⟨j, hj, rfl⟩ := hx
  rw [nI_clamp (by omega)]
  exact c_X7_gapCells l G a g j hj

def lp_rRule (g : Rw) (len : Int32) : Nat → Int32 → Nat → Int32
  | 0, best, _ => best
  | n + 1, best, k => if 80 ≤ (nI k) then best else
    if (nI (f_X7_gapCells g k)) < (len + (g 3)) then (if (0 : Int32) = 0 then lp_rRule g len n best (f_X7_nextGap g k) else
      if best = (-1) then lp_rRule g len n (nI k) (f_X7_nextGap g k) else
      if (g 2) = 1 then (if (nI (f_X7_gapCells g best.toNatClampNeg)) ≤ (nI (f_X7_gapCells g k)) then lp_rRule g len n best (f_X7_nextGap g k) else
        lp_rRule g len n (nI k) (f_X7_nextGap g k)) else
      lp_rRule g len n best (f_X7_nextGap g k)) else
    if (1 : Int32) = 0 then lp_rRule g len n best (f_X7_nextGap g k) else
    if best = (-1) then lp_rRule g len n (nI k) (f_X7_nextGap g k) else
    if (g 2) = 1 then (if (nI (f_X7_gapCells g best.toNatClampNeg)) ≤ (nI (f_X7_gapCells g k)) then lp_rRule g len n best (f_X7_nextGap g k) else
      lp_rRule g len n (nI k) (f_X7_nextGap g k)) else
    lp_rRule g len n best (f_X7_nextGap g k)
def f_X7_byRule (g : Rw) (len : Int32) : Int32 :=
  lp_rRule g len 81 (-1) (f_X7_gapFrom g 0)
set_option maxHeartbeats 4000000 in
set_option maxRecDepth 100000 in
theorem c_X7_byRule (l : Launch) (G : GG) (a : Nat) (g : Rw) (len : Int32) : Met l yX7_byRule wsX7_byRule ({ frames := 2, cells := 0, slots := 0, locals := 43 }) (PcH G [.ref a, .int len] (Arr G 0 a 327 g)) (QP (some (.int (f_X7_byRule g len)))) 0 0 noA := by
  refine metH (cc := cX7_byRule) (maxL := 5) (ret := (some .int)) (by decide) rfl ?_
  intro p e s m below meth cd hx hb hr hml hown hts hlocks hP hO
  have hS : va_S noA s.heap s.heap [] := va_S.rf
  have hl := lv_entry ([.ref a, .int len]) (n := 5) (Nat.le_of_ble_eq_true rfl)
  rw [lg_entry_eq]
  generalize (lg_sl ([.ref a, .int len]) ++ List.replicate (5 - (lg_sl ([.ref a, .int len])).length) Slot.unset).toArray = ls at hl ⊢
  have hl : lv_has ls 5 [(0, .ref a), (1, .int len)] := hl
  have loop8 : ∀ (n : Nat) (best : Int32) (k : Nat) , k ≤ 80 → 80 < k + n → (best = -1 ∨ ∃ j, j ≤ 80 ∧ best = nI j) → f_X7_byRule g len = lp_rRule g len n best k → ∀ (ls : Array Slot), lv_has ls 5 [(0, .ref a), (1, .int len), (2, .int best), (3, .int (nI k))] → W p l e (headSpec wsX7_byRule ({ frames := 2, cells := 0, slots := 0, locals := 43 } : Room)).room s m ([.ref a, .int len] : List Value).toArray below meth cd s.heap [] 0 0 (MQ below (QP (some (.int (f_X7_byRule g len)))) ([.ref a, .int len] : List Value).toArray s 0 0 noA) (F0 m 8 ls []) := by
    intro n
    induction n with
    | zero =>
      intro best k hk hn hbs hR ls hl
      exact absurd hn (by omega)
    | succ n ih =>
      intro best k hk hn hbs hR ls hl
      refine lv_iload_n hx hb dX7_byRule_8 rfl (lv_at hl 3 rfl) ?_
      refine lv_bipush (v := 80) hx hb dX7_byRule_9 (by decide) ?_
      refine lv_icmp_ge (tgt := 79) hx hb dX7_byRule_11 (by decide) (fun c_1 => ?_) (fun c_1 => ?_)
      · refine lv_iload_n hx hb dX7_byRule_79 rfl (lv_at hl 2 rfl) ?_
        have hE : f_X7_byRule g len = best := (hR.trans (by rw [lp_rRule, if_pos c_1]))
        exact W.iret hx hb hr (fun t ht hW => ⟨by rw [hE], ht⟩) hS.2.2 dX7_byRule_80
      · have hlt : k < 80 := kN (B := 80) c_1 (by omega) (by omega)
        refine lv_aload_n hx hb dX7_byRule_14 rfl (lv_at hl 0 rfl) ?_
        refine lv_iload_n hx hb dX7_byRule_15 rfl (lv_at hl 3 rfl) ?_
        refine cl_pi (rS (As := [.ref a, .int (nI k)]) (rest := []) ⟨hx, hb, hml, hown, hts⟩ (c_X7_gapCells l G a g k (by omega)) (va_cwS 2 hts gX7_byRule_X7_gapCells rfl rfl rfl (by decide +kernel) ⟨Nat.le_of_ble_eq_true rfl, Nat.le_of_ble_eq_true rfl⟩) hP hO rfl hl.1 (Nat.le_of_ble_eq_true rfl) dX7_byRule_16 ⟨Nat.le_of_ble_eq_true rfl, Nat.le_of_ble_eq_true rfl⟩) ?_
        refine lv_iload_n hx hb dX7_byRule_19 rfl (lv_at hl 1 rfl) ?_
        refine lv_aload_n hx hb dX7_byRule_20 rfl (lv_at hl 0 rfl) ?_
        refine lv_iconst (v := 3) hx hb dX7_byRule_21 (by decide) ?_
        refine iald_n (k := 3) hx hb hO.1 hP 0 0 rfl rfl (by omega) (by decide) dX7_byRule_22 ?_
        refine lv_iadd hx hb dX7_byRule_23 ?_
        refine lv_icmp_lt (tgt := 31) hx hb dX7_byRule_24 (by decide) (fun c_2 => ?_) (fun c_2 => ?_)
        · refine lv_iconst (v := 0) hx hb dX7_byRule_31 (by decide) ?_
          refine lv_istore (lv' := [(4, .int 0), (0, .ref a), (1, .int len), (2, .int best), (3, .int (nI k))]) hx hb dX7_byRule_32 hl (by decide) rfl (fun ls hl => ?_)
          refine lv_iload hx hb dX7_byRule_34 (lv_at hl 0 rfl) ?_
          refine lv_if_eq (tgt := 68) hx hb dX7_byRule_36 (by decide) (fun c_3 => ?_) (fun c_3 => ?_)
          · refine lv_iload_n hx hb dX7_byRule_68 rfl (lv_at hl 3 rfl) ?_
            refine lv_istore_n (lv' := [(2, .int best), (4, .int 0), (0, .ref a), (1, .int len), (3, .int (nI k))]) hx hb dX7_byRule_69 rfl hl (by decide) rfl (fun ls hl => ?_)
            refine lv_aload_n hx hb dX7_byRule_70 rfl (lv_at hl 2 rfl) ?_
            refine lv_iload_n hx hb dX7_byRule_71 rfl (lv_at hl 4 rfl) ?_
            refine cl_pi (rS (As := [.ref a, .int (nI k)]) (rest := []) ⟨hx, hb, hml, hown, hts⟩ (c_X7_nextGap l G a g k (by omega)) (va_cwS 2 hts gX7_byRule_X7_nextGap rfl rfl rfl (by decide +kernel) ⟨Nat.le_of_ble_eq_true rfl, Nat.le_of_ble_eq_true rfl⟩) hP hO rfl hl.1 (Nat.le_of_ble_eq_true rfl) dX7_byRule_72 ⟨Nat.le_of_ble_eq_true rfl, Nat.le_of_ble_eq_true rfl⟩) ?_
            refine lv_istore_n (lv' := [(3, .int (nI (f_X7_nextGap g k))), (2, .int best), (4, .int 0), (0, .ref a), (1, .int len)]) hx hb dX7_byRule_75 rfl hl (by decide) rfl (fun ls hl => ?_)
            refine lv_goto (tgt := 8) hx hb dX7_byRule_76 (by decide) ?_
            have hE_4 : f_X7_byRule g len = lp_rRule g len n best (f_X7_nextGap g k) := (hR.trans (by rw [lp_rRule, if_neg c_1, if_pos c_2, if_pos c_3]))
            exact ih best (f_X7_nextGap g k) (next_gt g hlt).2 (by have h9 := (next_gt g hlt).1; omega) hbs hE_4 _ (lv_sub hl [3, 4, 1, 0] rfl)
          · refine lv_iload_n hx hb dX7_byRule_39 rfl (lv_at hl 3 rfl) ?_
            refine lv_iconst (v := -1) hx hb dX7_byRule_40 (by decide) ?_
            refine lv_icmp_eq (tgt := 64) hx hb dX7_byRule_41 (by decide) (fun c_5 => ?_) (fun c_5 => ?_)
            · refine lv_iload_n hx hb dX7_byRule_64 rfl (lv_at hl 4 rfl) ?_
              refine lv_goto (tgt := 69) hx hb dX7_byRule_65 (by decide) ?_
              refine lv_istore_n (lv' := [(2, .int (nI k)), (4, .int 0), (0, .ref a), (1, .int len), (3, .int (nI k))]) hx hb dX7_byRule_69 rfl hl (by decide) rfl (fun ls hl => ?_)
              refine lv_aload_n hx hb dX7_byRule_70 rfl (lv_at hl 2 rfl) ?_
              refine lv_iload_n hx hb dX7_byRule_71 rfl (lv_at hl 4 rfl) ?_
              refine cl_pi (rS (As := [.ref a, .int (nI k)]) (rest := []) ⟨hx, hb, hml, hown, hts⟩ (c_X7_nextGap l G a g k (by omega)) (va_cwS 2 hts gX7_byRule_X7_nextGap rfl rfl rfl (by decide +kernel) ⟨Nat.le_of_ble_eq_true rfl, Nat.le_of_ble_eq_true rfl⟩) hP hO rfl hl.1 (Nat.le_of_ble_eq_true rfl) dX7_byRule_72 ⟨Nat.le_of_ble_eq_true rfl, Nat.le_of_ble_eq_true rfl⟩) ?_
              refine lv_istore_n (lv' := [(3, .int (nI (f_X7_nextGap g k))), (2, .int (nI k)), (4, .int 0), (0, .ref a), (1, .int len)]) hx hb dX7_byRule_75 rfl hl (by decide) rfl (fun ls hl => ?_)
              refine lv_goto (tgt := 8) hx hb dX7_byRule_76 (by decide) ?_
              have hE_6 : f_X7_byRule g len = lp_rRule g len n (nI k) (f_X7_nextGap g k) := (hR.trans (by rw [lp_rRule, if_neg c_1, if_pos c_2, if_neg c_3, if_pos c_5]))
              exact ih (nI k) (f_X7_nextGap g k) (next_gt g hlt).2 (by have h9 := (next_gt g hlt).1; omega) (Or.inr ⟨k, by omega, rfl⟩) hE_6 _ (lv_sub hl [3, 4, 1, 0] rfl)
            · refine lv_aload_n hx hb dX7_byRule_44 rfl (lv_at hl 1 rfl) ?_
              refine lv_iconst (v := 2) hx hb dX7_byRule_45 (by decide) ?_
              refine iald_n (k := 2) hx hb hO.1 hP 0 0 rfl rfl (by omega) (by decide) dX7_byRule_46 ?_
              refine lv_iconst (v := 1) hx hb dX7_byRule_47 (by decide) ?_
              refine lv_icmp_ne (tgt := 68) hx hb dX7_byRule_48 (by decide) (fun c_7 => ?_) (fun c_7 => ?_)
              · refine lv_iload_n hx hb dX7_byRule_68 rfl (lv_at hl 3 rfl) ?_
                refine lv_istore_n (lv' := [(2, .int best), (4, .int 0), (0, .ref a), (1, .int len), (3, .int (nI k))]) hx hb dX7_byRule_69 rfl hl (by decide) rfl (fun ls hl => ?_)
                refine lv_aload_n hx hb dX7_byRule_70 rfl (lv_at hl 2 rfl) ?_
                refine lv_iload_n hx hb dX7_byRule_71 rfl (lv_at hl 4 rfl) ?_
                refine cl_pi (rS (As := [.ref a, .int (nI k)]) (rest := []) ⟨hx, hb, hml, hown, hts⟩ (c_X7_nextGap l G a g k (by omega)) (va_cwS 2 hts gX7_byRule_X7_nextGap rfl rfl rfl (by decide +kernel) ⟨Nat.le_of_ble_eq_true rfl, Nat.le_of_ble_eq_true rfl⟩) hP hO rfl hl.1 (Nat.le_of_ble_eq_true rfl) dX7_byRule_72 ⟨Nat.le_of_ble_eq_true rfl, Nat.le_of_ble_eq_true rfl⟩) ?_
                refine lv_istore_n (lv' := [(3, .int (nI (f_X7_nextGap g k))), (2, .int best), (4, .int 0), (0, .ref a), (1, .int len)]) hx hb dX7_byRule_75 rfl hl (by decide) rfl (fun ls hl => ?_)
                refine lv_goto (tgt := 8) hx hb dX7_byRule_76 (by decide) ?_
                have hE_8 : f_X7_byRule g len = lp_rRule g len n best (f_X7_nextGap g k) := (hR.trans (by rw [lp_rRule, if_neg c_1, if_pos c_2, if_neg c_3, if_neg c_5, if_neg c_7]))
                exact ih best (f_X7_nextGap g k) (next_gt g hlt).2 (by have h9 := (next_gt g hlt).1; omega) hbs hE_8 _ (lv_sub hl [3, 4, 1, 0] rfl)
              · refine lv_aload_n hx hb dX7_byRule_51 rfl (lv_at hl 1 rfl) ?_
                refine lv_iload_n hx hb dX7_byRule_52 rfl (lv_at hl 4 rfl) ?_
                refine cl_pi (rS (As := [.ref a, .int (nI k)]) (rest := []) ⟨hx, hb, hml, hown, hts⟩ (c_X7_gapCells l G a g k (by omega)) (va_cwS 2 hts gX7_byRule_X7_gapCells rfl rfl rfl (by decide +kernel) ⟨Nat.le_of_ble_eq_true rfl, Nat.le_of_ble_eq_true rfl⟩) hP hO rfl hl.1 (Nat.le_of_ble_eq_true rfl) dX7_byRule_53 ⟨Nat.le_of_ble_eq_true rfl, Nat.le_of_ble_eq_true rfl⟩) ?_
                refine lv_aload_n hx hb dX7_byRule_56 rfl (lv_at hl 1 rfl) ?_
                refine lv_iload_n hx hb dX7_byRule_57 rfl (lv_at hl 3 rfl) ?_
                refine cl_pi (rS (As := [.ref a, .int best]) (rest := [.int (nI (f_X7_gapCells g k))]) ⟨hx, hb, hml, hown, hts⟩ (c_X7_gapCells_raw l G a g best (hbs.elim (fun z => absurd z (by assumption)) id)) (va_cwS 2 hts gX7_byRule_X7_gapCells rfl rfl rfl (by decide +kernel) ⟨Nat.le_of_ble_eq_true rfl, Nat.le_of_ble_eq_true rfl⟩) hP hO rfl hl.1 (Nat.le_of_ble_eq_true rfl) dX7_byRule_58 ⟨Nat.le_of_ble_eq_true rfl, Nat.le_of_ble_eq_true rfl⟩) ?_
                refine lv_icmp_ge (tgt := 68) hx hb dX7_byRule_61 (by decide) (fun c_9 => ?_) (fun c_9 => ?_)
                · refine lv_iload_n hx hb dX7_byRule_68 rfl (lv_at hl 3 rfl) ?_
                  refine lv_istore_n (lv' := [(2, .int best), (4, .int 0), (0, .ref a), (1, .int len), (3, .int (nI k))]) hx hb dX7_byRule_69 rfl hl (by decide) rfl (fun ls hl => ?_)
                  refine lv_aload_n hx hb dX7_byRule_70 rfl (lv_at hl 2 rfl) ?_
                  refine lv_iload_n hx hb dX7_byRule_71 rfl (lv_at hl 4 rfl) ?_
                  refine cl_pi (rS (As := [.ref a, .int (nI k)]) (rest := []) ⟨hx, hb, hml, hown, hts⟩ (c_X7_nextGap l G a g k (by omega)) (va_cwS 2 hts gX7_byRule_X7_nextGap rfl rfl rfl (by decide +kernel) ⟨Nat.le_of_ble_eq_true rfl, Nat.le_of_ble_eq_true rfl⟩) hP hO rfl hl.1 (Nat.le_of_ble_eq_true rfl) dX7_byRule_72 ⟨Nat.le_of_ble_eq_true rfl, Nat.le_of_ble_eq_true rfl⟩) ?_
                  refine lv_istore_n (lv' := [(3, .int (nI (f_X7_nextGap g k))), (2, .int best), (4, .int 0), (0, .ref a), (1, .int len)]) hx hb dX7_byRule_75 rfl hl (by decide) rfl (fun ls hl => ?_)
                  refine lv_goto (tgt := 8) hx hb dX7_byRule_76 (by decide) ?_
                  have hE_10 : f_X7_byRule g len = lp_rRule g len n best (f_X7_nextGap g k) := (hR.trans (by rw [lp_rRule, if_neg c_1, if_pos c_2, if_neg c_3, if_neg c_5, if_pos c_7, if_pos c_9]))
                  exact ih best (f_X7_nextGap g k) (next_gt g hlt).2 (by have h9 := (next_gt g hlt).1; omega) hbs hE_10 _ (lv_sub hl [3, 4, 1, 0] rfl)
                · refine lv_iload_n hx hb dX7_byRule_64 rfl (lv_at hl 4 rfl) ?_
                  refine lv_goto (tgt := 69) hx hb dX7_byRule_65 (by decide) ?_
                  refine lv_istore_n (lv' := [(2, .int (nI k)), (4, .int 0), (0, .ref a), (1, .int len), (3, .int (nI k))]) hx hb dX7_byRule_69 rfl hl (by decide) rfl (fun ls hl => ?_)
                  refine lv_aload_n hx hb dX7_byRule_70 rfl (lv_at hl 2 rfl) ?_
                  refine lv_iload_n hx hb dX7_byRule_71 rfl (lv_at hl 4 rfl) ?_
                  refine cl_pi (rS (As := [.ref a, .int (nI k)]) (rest := []) ⟨hx, hb, hml, hown, hts⟩ (c_X7_nextGap l G a g k (by omega)) (va_cwS 2 hts gX7_byRule_X7_nextGap rfl rfl rfl (by decide +kernel) ⟨Nat.le_of_ble_eq_true rfl, Nat.le_of_ble_eq_true rfl⟩) hP hO rfl hl.1 (Nat.le_of_ble_eq_true rfl) dX7_byRule_72 ⟨Nat.le_of_ble_eq_true rfl, Nat.le_of_ble_eq_true rfl⟩) ?_
                  refine lv_istore_n (lv' := [(3, .int (nI (f_X7_nextGap g k))), (2, .int (nI k)), (4, .int 0), (0, .ref a), (1, .int len)]) hx hb dX7_byRule_75 rfl hl (by decide) rfl (fun ls hl => ?_)
                  refine lv_goto (tgt := 8) hx hb dX7_byRule_76 (by decide) ?_
                  have hE_11 : f_X7_byRule g len = lp_rRule g len n (nI k) (f_X7_nextGap g k) := (hR.trans (by rw [lp_rRule, if_neg c_1, if_pos c_2, if_neg c_3, if_neg c_5, if_pos c_7, if_neg c_9]))
                  exact ih (nI k) (f_X7_nextGap g k) (next_gt g hlt).2 (by have h9 := (next_gt g hlt).1; omega) (Or.inr ⟨k, by omega, rfl⟩) hE_11 _ (lv_sub hl [3, 4, 1, 0] rfl)
        · refine lv_iconst (v := 1) hx hb dX7_byRule_27 (by decide) ?_
          refine lv_goto (tgt := 32) hx hb dX7_byRule_28 (by decide) ?_
          refine lv_istore (lv' := [(4, .int 1), (0, .ref a), (1, .int len), (2, .int best), (3, .int (nI k))]) hx hb dX7_byRule_32 hl (by decide) rfl (fun ls hl => ?_)
          refine lv_iload hx hb dX7_byRule_34 (lv_at hl 0 rfl) ?_
          refine lv_if_eq (tgt := 68) hx hb dX7_byRule_36 (by decide) (fun c_12 => ?_) (fun c_12 => ?_)
          · refine lv_iload_n hx hb dX7_byRule_68 rfl (lv_at hl 3 rfl) ?_
            refine lv_istore_n (lv' := [(2, .int best), (4, .int 1), (0, .ref a), (1, .int len), (3, .int (nI k))]) hx hb dX7_byRule_69 rfl hl (by decide) rfl (fun ls hl => ?_)
            refine lv_aload_n hx hb dX7_byRule_70 rfl (lv_at hl 2 rfl) ?_
            refine lv_iload_n hx hb dX7_byRule_71 rfl (lv_at hl 4 rfl) ?_
            refine cl_pi (rS (As := [.ref a, .int (nI k)]) (rest := []) ⟨hx, hb, hml, hown, hts⟩ (c_X7_nextGap l G a g k (by omega)) (va_cwS 2 hts gX7_byRule_X7_nextGap rfl rfl rfl (by decide +kernel) ⟨Nat.le_of_ble_eq_true rfl, Nat.le_of_ble_eq_true rfl⟩) hP hO rfl hl.1 (Nat.le_of_ble_eq_true rfl) dX7_byRule_72 ⟨Nat.le_of_ble_eq_true rfl, Nat.le_of_ble_eq_true rfl⟩) ?_
            refine lv_istore_n (lv' := [(3, .int (nI (f_X7_nextGap g k))), (2, .int best), (4, .int 1), (0, .ref a), (1, .int len)]) hx hb dX7_byRule_75 rfl hl (by decide) rfl (fun ls hl => ?_)
            refine lv_goto (tgt := 8) hx hb dX7_byRule_76 (by decide) ?_
            have hE_13 : f_X7_byRule g len = lp_rRule g len n best (f_X7_nextGap g k) := (hR.trans (by rw [lp_rRule, if_neg c_1, if_neg c_2, if_pos c_12]))
            exact ih best (f_X7_nextGap g k) (next_gt g hlt).2 (by have h9 := (next_gt g hlt).1; omega) hbs hE_13 _ (lv_sub hl [3, 4, 1, 0] rfl)
          · refine lv_iload_n hx hb dX7_byRule_39 rfl (lv_at hl 3 rfl) ?_
            refine lv_iconst (v := -1) hx hb dX7_byRule_40 (by decide) ?_
            refine lv_icmp_eq (tgt := 64) hx hb dX7_byRule_41 (by decide) (fun c_14 => ?_) (fun c_14 => ?_)
            · refine lv_iload_n hx hb dX7_byRule_64 rfl (lv_at hl 4 rfl) ?_
              refine lv_goto (tgt := 69) hx hb dX7_byRule_65 (by decide) ?_
              refine lv_istore_n (lv' := [(2, .int (nI k)), (4, .int 1), (0, .ref a), (1, .int len), (3, .int (nI k))]) hx hb dX7_byRule_69 rfl hl (by decide) rfl (fun ls hl => ?_)
              refine lv_aload_n hx hb dX7_byRule_70 rfl (lv_at hl 2 rfl) ?_
              refine lv_iload_n hx hb dX7_byRule_71 rfl (lv_at hl 4 rfl) ?_
              refine cl_pi (rS (As := [.ref a, .int (nI k)]) (rest := []) ⟨hx, hb, hml, hown, hts⟩ (c_X7_nextGap l G a g k (by omega)) (va_cwS 2 hts gX7_byRule_X7_nextGap rfl rfl rfl (by decide +kernel) ⟨Nat.le_of_ble_eq_true rfl, Nat.le_of_ble_eq_true rfl⟩) hP hO rfl hl.1 (Nat.le_of_ble_eq_true rfl) dX7_byRule_72 ⟨Nat.le_of_ble_eq_true rfl, Nat.le_of_ble_eq_true rfl⟩) ?_
              refine lv_istore_n (lv' := [(3, .int (nI (f_X7_nextGap g k))), (2, .int (nI k)), (4, .int 1), (0, .ref a), (1, .int len)]) hx hb dX7_byRule_75 rfl hl (by decide) rfl (fun ls hl => ?_)
              refine lv_goto (tgt := 8) hx hb dX7_byRule_76 (by decide) ?_
              have hE_15 : f_X7_byRule g len = lp_rRule g len n (nI k) (f_X7_nextGap g k) := (hR.trans (by rw [lp_rRule, if_neg c_1, if_neg c_2, if_neg c_12, if_pos c_14]))
              exact ih (nI k) (f_X7_nextGap g k) (next_gt g hlt).2 (by have h9 := (next_gt g hlt).1; omega) (Or.inr ⟨k, by omega, rfl⟩) hE_15 _ (lv_sub hl [3, 4, 1, 0] rfl)
            · refine lv_aload_n hx hb dX7_byRule_44 rfl (lv_at hl 1 rfl) ?_
              refine lv_iconst (v := 2) hx hb dX7_byRule_45 (by decide) ?_
              refine iald_n (k := 2) hx hb hO.1 hP 0 0 rfl rfl (by omega) (by decide) dX7_byRule_46 ?_
              refine lv_iconst (v := 1) hx hb dX7_byRule_47 (by decide) ?_
              refine lv_icmp_ne (tgt := 68) hx hb dX7_byRule_48 (by decide) (fun c_16 => ?_) (fun c_16 => ?_)
              · refine lv_iload_n hx hb dX7_byRule_68 rfl (lv_at hl 3 rfl) ?_
                refine lv_istore_n (lv' := [(2, .int best), (4, .int 1), (0, .ref a), (1, .int len), (3, .int (nI k))]) hx hb dX7_byRule_69 rfl hl (by decide) rfl (fun ls hl => ?_)
                refine lv_aload_n hx hb dX7_byRule_70 rfl (lv_at hl 2 rfl) ?_
                refine lv_iload_n hx hb dX7_byRule_71 rfl (lv_at hl 4 rfl) ?_
                refine cl_pi (rS (As := [.ref a, .int (nI k)]) (rest := []) ⟨hx, hb, hml, hown, hts⟩ (c_X7_nextGap l G a g k (by omega)) (va_cwS 2 hts gX7_byRule_X7_nextGap rfl rfl rfl (by decide +kernel) ⟨Nat.le_of_ble_eq_true rfl, Nat.le_of_ble_eq_true rfl⟩) hP hO rfl hl.1 (Nat.le_of_ble_eq_true rfl) dX7_byRule_72 ⟨Nat.le_of_ble_eq_true rfl, Nat.le_of_ble_eq_true rfl⟩) ?_
                refine lv_istore_n (lv' := [(3, .int (nI (f_X7_nextGap g k))), (2, .int best), (4, .int 1), (0, .ref a), (1, .int len)]) hx hb dX7_byRule_75 rfl hl (by decide) rfl (fun ls hl => ?_)
                refine lv_goto (tgt := 8) hx hb dX7_byRule_76 (by decide) ?_
                have hE_17 : f_X7_byRule g len = lp_rRule g len n best (f_X7_nextGap g k) := (hR.trans (by rw [lp_rRule, if_neg c_1, if_neg c_2, if_neg c_12, if_neg c_14, if_neg c_16]))
                exact ih best (f_X7_nextGap g k) (next_gt g hlt).2 (by have h9 := (next_gt g hlt).1; omega) hbs hE_17 _ (lv_sub hl [3, 4, 1, 0] rfl)
              · refine lv_aload_n hx hb dX7_byRule_51 rfl (lv_at hl 1 rfl) ?_
                refine lv_iload_n hx hb dX7_byRule_52 rfl (lv_at hl 4 rfl) ?_
                refine cl_pi (rS (As := [.ref a, .int (nI k)]) (rest := []) ⟨hx, hb, hml, hown, hts⟩ (c_X7_gapCells l G a g k (by omega)) (va_cwS 2 hts gX7_byRule_X7_gapCells rfl rfl rfl (by decide +kernel) ⟨Nat.le_of_ble_eq_true rfl, Nat.le_of_ble_eq_true rfl⟩) hP hO rfl hl.1 (Nat.le_of_ble_eq_true rfl) dX7_byRule_53 ⟨Nat.le_of_ble_eq_true rfl, Nat.le_of_ble_eq_true rfl⟩) ?_
                refine lv_aload_n hx hb dX7_byRule_56 rfl (lv_at hl 1 rfl) ?_
                refine lv_iload_n hx hb dX7_byRule_57 rfl (lv_at hl 3 rfl) ?_
                refine cl_pi (rS (As := [.ref a, .int best]) (rest := [.int (nI (f_X7_gapCells g k))]) ⟨hx, hb, hml, hown, hts⟩ (c_X7_gapCells_raw l G a g best (hbs.elim (fun z => absurd z (by assumption)) id)) (va_cwS 2 hts gX7_byRule_X7_gapCells rfl rfl rfl (by decide +kernel) ⟨Nat.le_of_ble_eq_true rfl, Nat.le_of_ble_eq_true rfl⟩) hP hO rfl hl.1 (Nat.le_of_ble_eq_true rfl) dX7_byRule_58 ⟨Nat.le_of_ble_eq_true rfl, Nat.le_of_ble_eq_true rfl⟩) ?_
                refine lv_icmp_ge (tgt := 68) hx hb dX7_byRule_61 (by decide) (fun c_18 => ?_) (fun c_18 => ?_)
                · refine lv_iload_n hx hb dX7_byRule_68 rfl (lv_at hl 3 rfl) ?_
                  refine lv_istore_n (lv' := [(2, .int best), (4, .int 1), (0, .ref a), (1, .int len), (3, .int (nI k))]) hx hb dX7_byRule_69 rfl hl (by decide) rfl (fun ls hl => ?_)
                  refine lv_aload_n hx hb dX7_byRule_70 rfl (lv_at hl 2 rfl) ?_
                  refine lv_iload_n hx hb dX7_byRule_71 rfl (lv_at hl 4 rfl) ?_
                  refine cl_pi (rS (As := [.ref a, .int (nI k)]) (rest := []) ⟨hx, hb, hml, hown, hts⟩ (c_X7_nextGap l G a g k (by omega)) (va_cwS 2 hts gX7_byRule_X7_nextGap rfl rfl rfl (by decide +kernel) ⟨Nat.le_of_ble_eq_true rfl, Nat.le_of_ble_eq_true rfl⟩) hP hO rfl hl.1 (Nat.le_of_ble_eq_true rfl) dX7_byRule_72 ⟨Nat.le_of_ble_eq_true rfl, Nat.le_of_ble_eq_true rfl⟩) ?_
                  refine lv_istore_n (lv' := [(3, .int (nI (f_X7_nextGap g k))), (2, .int best), (4, .int 1), (0, .ref a), (1, .int len)]) hx hb dX7_byRule_75 rfl hl (by decide) rfl (fun ls hl => ?_)
                  refine lv_goto (tgt := 8) hx hb dX7_byRule_76 (by decide) ?_
                  have hE_19 : f_X7_byRule g len = lp_rRule g len n best (f_X7_nextGap g k) := (hR.trans (by rw [lp_rRule, if_neg c_1, if_neg c_2, if_neg c_12, if_neg c_14, if_pos c_16, if_pos c_18]))
                  exact ih best (f_X7_nextGap g k) (next_gt g hlt).2 (by have h9 := (next_gt g hlt).1; omega) hbs hE_19 _ (lv_sub hl [3, 4, 1, 0] rfl)
                · refine lv_iload_n hx hb dX7_byRule_64 rfl (lv_at hl 4 rfl) ?_
                  refine lv_goto (tgt := 69) hx hb dX7_byRule_65 (by decide) ?_
                  refine lv_istore_n (lv' := [(2, .int (nI k)), (4, .int 1), (0, .ref a), (1, .int len), (3, .int (nI k))]) hx hb dX7_byRule_69 rfl hl (by decide) rfl (fun ls hl => ?_)
                  refine lv_aload_n hx hb dX7_byRule_70 rfl (lv_at hl 2 rfl) ?_
                  refine lv_iload_n hx hb dX7_byRule_71 rfl (lv_at hl 4 rfl) ?_
                  refine cl_pi (rS (As := [.ref a, .int (nI k)]) (rest := []) ⟨hx, hb, hml, hown, hts⟩ (c_X7_nextGap l G a g k (by omega)) (va_cwS 2 hts gX7_byRule_X7_nextGap rfl rfl rfl (by decide +kernel) ⟨Nat.le_of_ble_eq_true rfl, Nat.le_of_ble_eq_true rfl⟩) hP hO rfl hl.1 (Nat.le_of_ble_eq_true rfl) dX7_byRule_72 ⟨Nat.le_of_ble_eq_true rfl, Nat.le_of_ble_eq_true rfl⟩) ?_
                  refine lv_istore_n (lv' := [(3, .int (nI (f_X7_nextGap g k))), (2, .int (nI k)), (4, .int 1), (0, .ref a), (1, .int len)]) hx hb dX7_byRule_75 rfl hl (by decide) rfl (fun ls hl => ?_)
                  refine lv_goto (tgt := 8) hx hb dX7_byRule_76 (by decide) ?_
                  have hE_20 : f_X7_byRule g len = lp_rRule g len n (nI k) (f_X7_nextGap g k) := (hR.trans (by rw [lp_rRule, if_neg c_1, if_neg c_2, if_neg c_12, if_neg c_14, if_pos c_16, if_neg c_18]))
                  exact ih (nI k) (f_X7_nextGap g k) (next_gt g hlt).2 (by have h9 := (next_gt g hlt).1; omega) (Or.inr ⟨k, by omega, rfl⟩) hE_20 _ (lv_sub hl [3, 4, 1, 0] rfl)
  refine lv_iconst (v := -1) hx hb dX7_byRule_0 (by decide) ?_
  refine lv_istore_n (lv' := [(2, .int (-1)), (0, .ref a), (1, .int len)]) hx hb dX7_byRule_1 rfl hl (by decide) rfl (fun ls hl => ?_)
  refine lv_aload_n hx hb dX7_byRule_2 rfl (lv_at hl 1 rfl) ?_
  refine lv_iconst (v := 0) hx hb dX7_byRule_3 (by decide) ?_
  refine cl_pi (rS (As := [.ref a, .int 0]) (rest := []) ⟨hx, hb, hml, hown, hts⟩ (c_X7_gapFrom l G a g 0 (by omega)) (va_cwS 2 hts gX7_byRule_X7_gapFrom rfl rfl rfl (by decide +kernel) ⟨Nat.le_of_ble_eq_true rfl, Nat.le_of_ble_eq_true rfl⟩) hP hO rfl hl.1 (Nat.le_of_ble_eq_true rfl) dX7_byRule_4 ⟨Nat.le_of_ble_eq_true rfl, Nat.le_of_ble_eq_true rfl⟩) ?_
  refine lv_istore_n (lv' := [(3, .int (nI (f_X7_gapFrom g 0))), (2, .int (-1)), (0, .ref a), (1, .int len)]) hx hb dX7_byRule_7 rfl hl (by decide) rfl (fun ls hl => ?_)
  have hE_21 : f_X7_byRule g len = lp_rRule g len 81 (-1) (f_X7_gapFrom g 0) := (by rw [f_X7_byRule])
  exact loop8 81 (-1) (f_X7_gapFrom g 0) (from_le g (by omega)).2 (by omega) (Or.inl rfl) hE_21 _ (lv_sub hl [2, 3, 1, 0] rfl)

def h_X7_placeFor (g : Rw) (len : Int32) : Int32 × Rw :=
  if (g 2) = 2 then ((h_X7_byChance g len).1, (h_X7_byChance g len).2) else
  (f_X7_byRule g len, g)
set_option maxHeartbeats 4000000 in
set_option maxRecDepth 100000 in
theorem c_X7_placeFor (l : Launch) (G : GG) (a : Nat) (g : Rw) (len : Int32) : Met l yX7_placeFor wsX7_placeFor ({ frames := 3, cells := 0, slots := 0, locals := 70 }) (PcH G [.ref a, .int len] (Arr G 0 a 327 g)) (QM (some (.int ((h_X7_placeFor g len).1))) (Arr G 0 a 327 ((h_X7_placeFor g len).2)) (one a)) 0 0 (one a) := by
  refine metH (cc := cX7_placeFor) (maxL := 2) (ret := (some .int)) (by decide) rfl ?_
  intro p e s m below meth cd hx hb hr hml hown hts hlocks hP hO
  have hA : ∀ q, (one a) q → (one a) q := fun _ h => h
  have hS : va_S (one a) s.heap s.heap [] := va_S.rf
  have hl := lv_entry ([.ref a, .int len]) (n := 2) (Nat.le_of_ble_eq_true rfl)
  rw [lg_entry_eq]
  generalize (lg_sl ([.ref a, .int len]) ++ List.replicate (2 - (lg_sl ([.ref a, .int len])).length) Slot.unset).toArray = ls at hl ⊢
  have hl : lv_has ls 2 [(0, .ref a), (1, .int len)] := hl
  refine lv_aload_n hx hb dX7_placeFor_0 rfl (lv_at hl 0 rfl) ?_
  refine lv_iconst (v := 2) hx hb dX7_placeFor_1 (by decide) ?_
  refine iald_n (k := 2) hx hb hO.1 hP 0 0 rfl rfl (by omega) (by decide) dX7_placeFor_2 ?_
  refine lv_iconst (v := 2) hx hb dX7_placeFor_3 (by decide) ?_
  refine lv_icmp_ne (tgt := 15) hx hb dX7_placeFor_4 (by decide) (fun c_1 => ?_) (fun c_1 => ?_)
  · refine lv_aload_n hx hb dX7_placeFor_15 rfl (lv_at hl 0 rfl) ?_
    refine lv_iload_n hx hb dX7_placeFor_16 rfl (lv_at hl 1 rfl) ?_
    refine cl_pi (rS (As := [.ref a, .int len]) (rest := []) ⟨hx, hb, hml, hown, hts⟩ (c_X7_byRule l G a g len) (va_cwS 2 hts gX7_placeFor_X7_byRule rfl rfl rfl (by decide +kernel) ⟨Nat.le_of_ble_eq_true rfl, Nat.le_of_ble_eq_true rfl⟩) hP hO rfl hl.1 (Nat.le_of_ble_eq_true rfl) dX7_placeFor_17 ⟨Nat.le_of_ble_eq_true rfl, Nat.le_of_ble_eq_true rfl⟩) ?_
    have hE : h_X7_placeFor g len = (f_X7_byRule g len, g) := (by rw [h_X7_placeFor, if_neg c_1])
    have hE2 := snd_of hE
    exact W.iret hx hb hr (fun t ht hW => ⟨by rw [fst_of hE], by rw [ht, hE2]; exact hP, hS.F ht⟩) hS.2.2 dX7_placeFor_20
  · refine lv_aload_n hx hb dX7_placeFor_7 rfl (lv_at hl 0 rfl) ?_
    refine lv_iload_n hx hb dX7_placeFor_8 rfl (lv_at hl 1 rfl) ?_
    refine cl_mi (rS (As := [.ref a, .int len]) (rest := []) ⟨hx, hb, hml, hown, hts⟩ (c_X7_byChance l G a g len) (va_cwS 2 hts gX7_placeFor_X7_byChance rfl rfl rfl (by decide +kernel) ⟨Nat.le_of_ble_eq_true rfl, Nat.le_of_ble_eq_true rfl⟩) hP hO rfl hl.1 (Nat.le_of_ble_eq_true rfl) dX7_placeFor_9 ⟨Nat.le_of_ble_eq_true rfl, Nat.le_of_ble_eq_true rfl⟩) hS hA (fun H locs hP1 hz hk hS => ?_)
    have hP : Arr G 0 a 327 ((h_X7_byChance g len).2) H := hP1
    refine lv_goto (tgt := 20) hx hb dX7_placeFor_12 (by decide) ?_
    have hE : h_X7_placeFor g len = ((h_X7_byChance g len).1, (h_X7_byChance g len).2) := (by rw [h_X7_placeFor, if_pos c_1])
    have hE2 := snd_of hE
    exact W.iret hx hb hr (fun t ht hW => ⟨by rw [fst_of hE], by rw [ht, hE2]; exact hP, hS.F ht⟩) hS.2.2 dX7_placeFor_20

def lp_rFill (x j : Nat) (v : Int32) : Nat → Nat → Rw → Rw
  | 0, _, g2 => g2
  | n + 1, k, g2 => if (nI (x + j)) ≤ (nI k) then g2 else
    lp_rFill x j v n (k + 1) (upd g2 (7 + k) v)
def h_X7_fill (g : Rw) (x : Nat) (j : Nat) (v : Int32) : Rw :=
  lp_rFill x j v (j + 1) x g
set_option maxHeartbeats 4000000 in
set_option maxRecDepth 100000 in
theorem c_X7_fill (l : Launch) (G : GG) (a : Nat) (g : Rw) (x : Nat) (j : Nat) (v : Int32) (hxj : x + j ≤ 80) : Met l yX7_fill wsX7_fill ({ frames := 0, cells := 0, slots := 0, locals := 0 }) (PcH G [.ref a, .int (nI x), .int (nI j), .int v] (Arr G 0 a 327 g)) (QM none (Arr G 0 a 327 (h_X7_fill g x j v)) (one a)) 0 0 (one a) := by
  refine metH (cc := cX7_fill) (maxL := 5) (ret := none) (by decide) rfl ?_
  intro p e s m below meth cd hx hb hr hml hown hts hlocks hP hO
  have hA : ∀ q, (one a) q → (one a) q := fun _ h => h
  have hS : va_S (one a) s.heap s.heap [] := va_S.rf
  have hl := lv_entry ([.ref a, .int (nI x), .int (nI j), .int v]) (n := 5) (Nat.le_of_ble_eq_true rfl)
  rw [lg_entry_eq]
  generalize (lg_sl ([.ref a, .int (nI x), .int (nI j), .int v]) ++ List.replicate (5 - (lg_sl ([.ref a, .int (nI x), .int (nI j), .int v])).length) Slot.unset).toArray = ls at hl ⊢
  have hl : lv_has ls 5 [(0, .ref a), (1, .int (nI x)), (2, .int (nI j)), (3, .int v)] := hl
  have loop3 : ∀ (n : Nat) (k : Nat) (g2 : Rw), x ≤ k → k ≤ x + j → k + n = x + j + 1 → h_X7_fill g x j v = lp_rFill x j v n k g2 → ∀ (H : Heap) (locs : List Loc) (ls : Array Slot), Arr G 0 a 327 g2 H → va_S (one a) s.heap H locs → lv_has ls 5 [(0, .ref a), (1, .int (nI x)), (2, .int (nI j)), (3, .int v), (4, .int (nI k))] → W p l e (headSpec wsX7_fill ({ frames := 0, cells := 0, slots := 0, locals := 0 } : Room)).room s m ([.ref a, .int (nI x), .int (nI j), .int v] : List Value).toArray below meth cd H locs 0 0 (MQ below (QM none (Arr G 0 a 327 (h_X7_fill g x j v)) (one a)) ([.ref a, .int (nI x), .int (nI j), .int v] : List Value).toArray s 0 0 (one a)) (F0 m 3 ls []) := by
    intro n
    induction n with
    | zero =>
      intro k g2 hkx hk hn hR H locs ls hP hS hl
      exact absurd hn (by omega)
    | succ n ih =>
      intro k g2 hkx hk hn hR H locs ls hP hS hl
      refine lv_iload hx hb dX7_fill_3 (lv_at hl 4 rfl) ?_
      refine lv_iload_n hx hb dX7_fill_5 rfl (lv_at hl 1 rfl) ?_
      refine lv_iload_n hx hb dX7_fill_6 rfl (lv_at hl 2 rfl) ?_
      refine iadd_n (a := x) (b := j) hx hb dX7_fill_7 ?_
      refine lv_icmp_ge (tgt := 25) hx hb dX7_fill_8 (by decide) (fun c_1 => ?_) (fun c_1 => ?_)
      · have hE : h_X7_fill g x j v = g2 := (hR.trans (by rw [lp_rFill, if_pos c_1]))
        exact W.vret hx hb hr (fun t ht hW => ⟨rfl, by rw [ht, hE]; exact hP, hS.F ht⟩) hS.2.2 dX7_fill_25
      · have hlt : k < x + j := kN (B := x + j) c_1 (by omega) (by omega)
        refine lv_aload_n hx hb dX7_fill_11 rfl (lv_at hl 0 rfl) ?_
        refine lv_bipush (v := 7) hx hb dX7_fill_12 (by decide) ?_
        refine lv_iload hx hb dX7_fill_14 (lv_at hl 4 rfl) ?_
        refine iadd_n (a := 7) (b := k) hx hb dX7_fill_16 ?_
        refine lv_iload_n hx hb dX7_fill_17 rfl (lv_at hl 3 rfl) ?_
        refine iast_n hx hb hO.1 hP (Arr_D (hA _ rfl)) hS 0 0 rfl rfl (by omega) (by decide) dX7_fill_18 (fun H locs hP hD hS => ?_)
        have hP : Arr G 0 a 327 (upd g2 (7 + k) v) H := id hP
        refine lv_iinc (v := nI (k + 1)) (lv' := [(4, .int (nI (k + 1))), (0, .ref a), (1, .int (nI x)), (2, .int (nI j)), (3, .int v)]) hx hb dX7_fill_19 hl (k := 4) rfl (nI_1 _) (by decide) rfl (fun ls hl => ?_)
        refine lv_goto (tgt := 3) hx hb dX7_fill_22 (by decide) ?_
        have hE_2 : h_X7_fill g x j v = lp_rFill x j v n (k + 1) (upd g2 (7 + k) v) := (hR.trans (by rw [lp_rFill, if_neg c_1]))
        exact ih (k + 1) (upd g2 (7 + k) v) (by omega) (by omega) (by omega) hE_2 _ _ _ hP hS (lv_sub hl [1, 2, 3, 4, 0] rfl)
  refine lv_iload_n hx hb dX7_fill_0 rfl (lv_at hl 1 rfl) ?_
  refine lv_istore (lv' := [(4, .int (nI x)), (0, .ref a), (1, .int (nI x)), (2, .int (nI j)), (3, .int v)]) hx hb dX7_fill_1 hl (by decide) rfl (fun ls hl => ?_)
  have hE_3 : h_X7_fill g x j v = lp_rFill x j v (j + 1) x g := (by rw [h_X7_fill])
  exact loop3 (j + 1) x g (Nat.le_refl _) (by omega) (by omega) hE_3 _ _ _ hP hS (lv_sub hl [1, 2, 3, 4, 0] rfl)

def lp_rWith (g : Rw) (mk : Int32) : Nat → Nat → Int32 → Int32
  | 0, _, _ => 0
  | n + 1, k, acc => if 80 ≤ (nI k) then acc else
    if (g (7 + k)) = mk then lp_rWith g mk n (k + 1) (acc + 1) else
    lp_rWith g mk n (k + 1) (acc + 0)
def f_X7_cellsWith (g : Rw) (mk : Int32) : Int32 :=
  lp_rWith g mk (80 + 1) 0 0
set_option maxHeartbeats 4000000 in
set_option maxRecDepth 100000 in
theorem c_X7_cellsWith (l : Launch) (G : GG) (a : Nat) (g : Rw) (mk : Int32) : Met l yX7_cellsWith wsX7_cellsWith ({ frames := 0, cells := 0, slots := 0, locals := 0 }) (PcH G [.ref a, .int mk] (Arr G 0 a 327 g)) (QP (some (.int (f_X7_cellsWith g mk)))) 0 0 noA := by
  refine metH (cc := cX7_cellsWith) (maxL := 4) (ret := (some .int)) (by decide) rfl ?_
  intro p e s m below meth cd hx hb hr hml hown hts hlocks hP hO
  have hS : va_S noA s.heap s.heap [] := va_S.rf
  have hl := lv_entry ([.ref a, .int mk]) (n := 4) (Nat.le_of_ble_eq_true rfl)
  rw [lg_entry_eq]
  generalize (lg_sl ([.ref a, .int mk]) ++ List.replicate (4 - (lg_sl ([.ref a, .int mk])).length) Slot.unset).toArray = ls at hl ⊢
  have hl : lv_has ls 4 [(0, .ref a), (1, .int mk)] := hl
  have loop4 : ∀ (n : Nat) (k : Nat) (acc : Int32) , k ≤ 80 → k + n = 80 + 1 → f_X7_cellsWith g mk = lp_rWith g mk n k acc → ∀ (ls : Array Slot), lv_has ls 4 [(0, .ref a), (1, .int mk), (2, .int acc), (3, .int (nI k))] → W p l e (headSpec wsX7_cellsWith ({ frames := 0, cells := 0, slots := 0, locals := 0 } : Room)).room s m ([.ref a, .int mk] : List Value).toArray below meth cd s.heap [] 0 0 (MQ below (QP (some (.int (f_X7_cellsWith g mk)))) ([.ref a, .int mk] : List Value).toArray s 0 0 noA) (F0 m 4 ls []) := by
    intro n
    induction n with
    | zero =>
      intro k acc hk hn hR ls hl
      exact absurd hn (by omega)
    | succ n ih =>
      intro k acc hk hn hR ls hl
      refine lv_iload_n hx hb dX7_cellsWith_4 rfl (lv_at hl 3 rfl) ?_
      refine lv_bipush (v := 80) hx hb dX7_cellsWith_5 (by decide) ?_
      refine lv_icmp_ge (tgt := 34) hx hb dX7_cellsWith_7 (by decide) (fun c_1 => ?_) (fun c_1 => ?_)
      · refine lv_iload_n hx hb dX7_cellsWith_34 rfl (lv_at hl 2 rfl) ?_
        have hE : f_X7_cellsWith g mk = acc := (hR.trans (by rw [lp_rWith, if_pos c_1]))
        exact W.iret hx hb hr (fun t ht hW => ⟨by rw [hE], ht⟩) hS.2.2 dX7_cellsWith_35
      · have hlt : k < 80 := kN (B := 80) c_1 (by omega) (by omega)
        refine lv_iload_n hx hb dX7_cellsWith_10 rfl (lv_at hl 2 rfl) ?_
        refine lv_aload_n hx hb dX7_cellsWith_11 rfl (lv_at hl 0 rfl) ?_
        refine lv_bipush (v := 7) hx hb dX7_cellsWith_12 (by decide) ?_
        refine lv_iload_n hx hb dX7_cellsWith_14 rfl (lv_at hl 3 rfl) ?_
        refine iadd_n (a := 7) (b := k) hx hb dX7_cellsWith_15 ?_
        refine iald_n hx hb hO.1 hP 0 0 rfl rfl (by omega) (by decide) dX7_cellsWith_16 ?_
        refine lv_iload_n hx hb dX7_cellsWith_17 rfl (lv_at hl 1 rfl) ?_
        refine lv_icmp_ne (tgt := 25) hx hb dX7_cellsWith_18 (by decide) (fun c_2 => ?_) (fun c_2 => ?_)
        · refine lv_iconst (v := 0) hx hb dX7_cellsWith_25 (by decide) ?_
          refine lv_iadd hx hb dX7_cellsWith_26 ?_
          refine lv_istore_n (lv' := [(2, .int (acc + 0)), (0, .ref a), (1, .int mk), (3, .int (nI k))]) hx hb dX7_cellsWith_27 rfl hl (by decide) rfl (fun ls hl => ?_)
          refine lv_iinc (v := nI (k + 1)) (lv' := [(3, .int (nI (k + 1))), (2, .int (acc + 0)), (0, .ref a), (1, .int mk)]) hx hb dX7_cellsWith_28 hl (k := 3) rfl (nI_1 _) (by decide) rfl (fun ls hl => ?_)
          refine lv_goto (tgt := 4) hx hb dX7_cellsWith_31 (by decide) ?_
          have hE_3 : f_X7_cellsWith g mk = lp_rWith g mk n (k + 1) (acc + 0) := (hR.trans (by rw [lp_rWith, if_neg c_1, if_neg c_2]))
          exact ih (k + 1) (acc + 0) (by omega) (by omega) hE_3 _ (lv_sub hl [2, 3, 1, 0] rfl)
        · refine lv_iconst (v := 1) hx hb dX7_cellsWith_21 (by decide) ?_
          refine lv_goto (tgt := 26) hx hb dX7_cellsWith_22 (by decide) ?_
          refine lv_iadd hx hb dX7_cellsWith_26 ?_
          refine lv_istore_n (lv' := [(2, .int (acc + 1)), (0, .ref a), (1, .int mk), (3, .int (nI k))]) hx hb dX7_cellsWith_27 rfl hl (by decide) rfl (fun ls hl => ?_)
          refine lv_iinc (v := nI (k + 1)) (lv' := [(3, .int (nI (k + 1))), (2, .int (acc + 1)), (0, .ref a), (1, .int mk)]) hx hb dX7_cellsWith_28 hl (k := 3) rfl (nI_1 _) (by decide) rfl (fun ls hl => ?_)
          refine lv_goto (tgt := 4) hx hb dX7_cellsWith_31 (by decide) ?_
          have hE_4 : f_X7_cellsWith g mk = lp_rWith g mk n (k + 1) (acc + 1) := (hR.trans (by rw [lp_rWith, if_neg c_1, if_pos c_2]))
          exact ih (k + 1) (acc + 1) (by omega) (by omega) hE_4 _ (lv_sub hl [2, 3, 1, 0] rfl)
  refine lv_iconst (v := 0) hx hb dX7_cellsWith_0 (by decide) ?_
  refine lv_istore_n (lv' := [(2, .int 0), (0, .ref a), (1, .int mk)]) hx hb dX7_cellsWith_1 rfl hl (by decide) rfl (fun ls hl => ?_)
  refine lv_iconst (v := 0) hx hb dX7_cellsWith_2 (by decide) ?_
  refine lv_istore_n (lv' := [(3, .int 0), (2, .int 0), (0, .ref a), (1, .int mk)]) hx hb dX7_cellsWith_3 rfl hl (by decide) rfl (fun ls hl => ?_)
  have hE_5 : f_X7_cellsWith g mk = lp_rWith g mk (80 + 1) 0 0 := (by rw [f_X7_cellsWith])
  exact loop4 (80 + 1) 0 0 (Nat.zero_le _) (by omega) hE_5 _ (lv_sub hl [2, 3, 1, 0] rfl)

def lp_rMany (g : Rw) (sta : Int32) : Nat → Nat → Int32 → Int32
  | 0, _, _ => 0
  | n + 1, k, acc => if (g 0) ≤ (nI k) then acc else
    if (f_X7_of g k 2) = sta then lp_rMany g sta n (k + 1) (acc + 1) else
    lp_rMany g sta n (k + 1) (acc + 0)
def f_X7_many (g : Rw) (sta : Int32) : Int32 :=
  lp_rMany g sta ((g 0).toNatClampNeg + 1) 0 0
set_option maxHeartbeats 4000000 in
set_option maxRecDepth 100000 in
theorem c_X7_many (l : Launch) (G : GG) (a : Nat) (g : Rw) (sta : Int32) (h40 : (g 0).toNatClampNeg ≤ 40) : Met l yX7_many wsX7_many ({ frames := 1, cells := 0, slots := 0, locals := 22 }) (PcH G [.ref a, .int sta] (Arr G 0 a 327 g)) (QP (some (.int (f_X7_many g sta)))) 0 0 noA := by
  refine metH (cc := cX7_many) (maxL := 4) (ret := (some .int)) (by decide) rfl ?_
  intro p e s m below meth cd hx hb hr hml hown hts hlocks hP hO
  have hS : va_S noA s.heap s.heap [] := va_S.rf
  have hl := lv_entry ([.ref a, .int sta]) (n := 4) (Nat.le_of_ble_eq_true rfl)
  rw [lg_entry_eq]
  generalize (lg_sl ([.ref a, .int sta]) ++ List.replicate (4 - (lg_sl ([.ref a, .int sta])).length) Slot.unset).toArray = ls at hl ⊢
  have hl : lv_has ls 4 [(0, .ref a), (1, .int sta)] := hl
  have loop4 : ∀ (n : Nat) (k : Nat) (acc : Int32) , k ≤ (g 0).toNatClampNeg → k + n = (g 0).toNatClampNeg + 1 → f_X7_many g sta = lp_rMany g sta n k acc → ∀ (ls : Array Slot), lv_has ls 4 [(0, .ref a), (1, .int sta), (2, .int acc), (3, .int (nI k))] → W p l e (headSpec wsX7_many ({ frames := 1, cells := 0, slots := 0, locals := 22 } : Room)).room s m ([.ref a, .int sta] : List Value).toArray below meth cd s.heap [] 0 0 (MQ below (QP (some (.int (f_X7_many g sta)))) ([.ref a, .int sta] : List Value).toArray s 0 0 noA) (F0 m 4 ls []) := by
    intro n
    induction n with
    | zero =>
      intro k acc hk hn hR ls hl
      exact absurd hn (by omega)
    | succ n ih =>
      intro k acc hk hn hR ls hl
      refine lv_iload_n hx hb dX7_many_4 rfl (lv_at hl 3 rfl) ?_
      refine lv_aload_n hx hb dX7_many_5 rfl (lv_at hl 0 rfl) ?_
      refine lv_iconst (v := 0) hx hb dX7_many_6 (by decide) ?_
      refine iald_n (k := 0) hx hb hO.1 hP 0 0 rfl rfl (by omega) (by decide) dX7_many_7 ?_
      refine lv_icmp_ge (tgt := 35) hx hb dX7_many_8 (by decide) (fun c_1 => ?_) (fun c_1 => ?_)
      · refine lv_iload_n hx hb dX7_many_35 rfl (lv_at hl 2 rfl) ?_
        have hE : f_X7_many g sta = acc := (hR.trans (by rw [lp_rMany, if_pos c_1]))
        exact W.iret hx hb hr (fun t ht hW => ⟨by rw [hE], ht⟩) hS.2.2 dX7_many_36
      · have hlt : k < (g 0).toNatClampNeg := (by have h8 := clamp_lt (g 0); exact kV c_1 (by omega))
        refine lv_iload_n hx hb dX7_many_11 rfl (lv_at hl 2 rfl) ?_
        refine lv_aload_n hx hb dX7_many_12 rfl (lv_at hl 0 rfl) ?_
        refine lv_iload_n hx hb dX7_many_13 rfl (lv_at hl 3 rfl) ?_
        refine lv_iconst (v := 2) hx hb dX7_many_14 (by decide) ?_
        refine cl_pi (rS (As := [.ref a, .int (nI k), .int 2]) (rest := [.int acc]) ⟨hx, hb, hml, hown, hts⟩ (c_X7_of l G a g k 2 (by omega)) (va_cwS 3 hts gX7_many_X7_of rfl rfl rfl (by decide +kernel) ⟨Nat.le_of_ble_eq_true rfl, Nat.le_of_ble_eq_true rfl⟩) hP hO rfl hl.1 (Nat.le_of_ble_eq_true rfl) dX7_many_15 ⟨Nat.le_of_ble_eq_true rfl, Nat.le_of_ble_eq_true rfl⟩) ?_
        refine lv_iload_n hx hb dX7_many_18 rfl (lv_at hl 1 rfl) ?_
        refine lv_icmp_ne (tgt := 26) hx hb dX7_many_19 (by decide) (fun c_2 => ?_) (fun c_2 => ?_)
        · refine lv_iconst (v := 0) hx hb dX7_many_26 (by decide) ?_
          refine lv_iadd hx hb dX7_many_27 ?_
          refine lv_istore_n (lv' := [(2, .int (acc + 0)), (0, .ref a), (1, .int sta), (3, .int (nI k))]) hx hb dX7_many_28 rfl hl (by decide) rfl (fun ls hl => ?_)
          refine lv_iinc (v := nI (k + 1)) (lv' := [(3, .int (nI (k + 1))), (2, .int (acc + 0)), (0, .ref a), (1, .int sta)]) hx hb dX7_many_29 hl (k := 3) rfl (nI_1 _) (by decide) rfl (fun ls hl => ?_)
          refine lv_goto (tgt := 4) hx hb dX7_many_32 (by decide) ?_
          have hE_3 : f_X7_many g sta = lp_rMany g sta n (k + 1) (acc + 0) := (hR.trans (by rw [lp_rMany, if_neg c_1, if_neg c_2]))
          exact ih (k + 1) (acc + 0) (by omega) (by omega) hE_3 _ (lv_sub hl [2, 3, 1, 0] rfl)
        · refine lv_iconst (v := 1) hx hb dX7_many_22 (by decide) ?_
          refine lv_goto (tgt := 27) hx hb dX7_many_23 (by decide) ?_
          refine lv_iadd hx hb dX7_many_27 ?_
          refine lv_istore_n (lv' := [(2, .int (acc + 1)), (0, .ref a), (1, .int sta), (3, .int (nI k))]) hx hb dX7_many_28 rfl hl (by decide) rfl (fun ls hl => ?_)
          refine lv_iinc (v := nI (k + 1)) (lv' := [(3, .int (nI (k + 1))), (2, .int (acc + 1)), (0, .ref a), (1, .int sta)]) hx hb dX7_many_29 hl (k := 3) rfl (nI_1 _) (by decide) rfl (fun ls hl => ?_)
          refine lv_goto (tgt := 4) hx hb dX7_many_32 (by decide) ?_
          have hE_4 : f_X7_many g sta = lp_rMany g sta n (k + 1) (acc + 1) := (hR.trans (by rw [lp_rMany, if_neg c_1, if_pos c_2]))
          exact ih (k + 1) (acc + 1) (by omega) (by omega) hE_4 _ (lv_sub hl [2, 3, 1, 0] rfl)
  refine lv_iconst (v := 0) hx hb dX7_many_0 (by decide) ?_
  refine lv_istore_n (lv' := [(2, .int 0), (0, .ref a), (1, .int sta)]) hx hb dX7_many_1 rfl hl (by decide) rfl (fun ls hl => ?_)
  refine lv_iconst (v := 0) hx hb dX7_many_2 (by decide) ?_
  refine lv_istore_n (lv' := [(3, .int 0), (2, .int 0), (0, .ref a), (1, .int sta)]) hx hb dX7_many_3 rfl hl (by decide) rfl (fun ls hl => ?_)
  have hE_5 : f_X7_many g sta = lp_rMany g sta ((g 0).toNatClampNeg + 1) 0 0 := (by rw [f_X7_many])
  exact loop4 ((g 0).toNatClampNeg + 1) 0 0 (Nat.zero_le _) (by omega) hE_5 _ (lv_sub hl [2, 3, 1, 0] rfl)

def px (g : Rw) (c : Nat) : Nat := (f_X7_of g c 3).toNatClampNeg
def pj (g : Rw) (c : Nat) : Nat := (f_X7_of g c 0).toNatClampNeg
theorem rFill_hi (x j : Nat) (v : Int32) (h : x + j ≤ 80) (i : Nat) (hi : 87 ≤ i) : ∀ (n k : Nat) (g : Rw), k ≤ x + j → lp_rFill x j v n k g i = g i := by
  intro n
  induction n with
  | zero => intro k g hk; rfl
  | succ n ih =>
    intro k g hk
    rw [lp_rFill]
    split
    · rfl
    · rename_i c1
      have h9 : k < x + j := kN (B := x + j) c1 (by omega) (by omega)
      rw [ih (k + 1) _ (by omega), pk_un (by omega)]
theorem fill_hi (g : Rw) {x j : Nat} (v : Int32) (h : x + j ≤ 80) {i : Nat} (hi : 87 ≤ i) : h_X7_fill g x j v i = g i := rFill_hi x j v h i hi _ _ _ (by omega)
theorem of_fill (g : Rw) {x j : Nat} (v : Int32) (h : x + j ≤ 80) (c w : Nat) : f_X7_of (h_X7_fill g x j v) c w = f_X7_of g c w := fill_hi g v h (by omega)

def h_X7_goes (g : Rw) (c : Nat) (sta : Int32) : Int32 × Rw :=
  (nI (px g c), (h_X7_lay (h_X7_lay (h_X7_fill g (px g c) (pj g c) (-1)) c 3 (-1)) c 2 sta))
set_option maxHeartbeats 4000000 in
set_option maxRecDepth 100000 in
theorem c_X7_goes (l : Launch) (G : GG) (a : Nat) (g : Rw) (c : Nat) (sta : Int32) (hc : c < 40) (hpx : f_X7_of g c 3 = nI (px g c)) (hpj : f_X7_of g c 0 = nI (pj g c)) (hpl : px g c + pj g c ≤ 80) : Met l yX7_goes wsX7_goes ({ frames := 1, cells := 0, slots := 0, locals := 24 }) (PcH G [.ref a, .int (nI c), .int sta] (Arr G 0 a 327 g)) (QM (some (.int ((h_X7_goes g c sta).1))) (Arr G 0 a 327 ((h_X7_goes g c sta).2)) (one a)) 0 0 (one a) := by
  refine metH (cc := cX7_goes) (maxL := 4) (ret := (some .int)) (by decide) rfl ?_
  intro p e s m below meth cd hx hb hr hml hown hts hlocks hP hO
  have hA : ∀ q, (one a) q → (one a) q := fun _ h => h
  have hS : va_S (one a) s.heap s.heap [] := va_S.rf
  have hl := lv_entry ([.ref a, .int (nI c), .int sta]) (n := 4) (Nat.le_of_ble_eq_true rfl)
  rw [lg_entry_eq]
  generalize (lg_sl ([.ref a, .int (nI c), .int sta]) ++ List.replicate (4 - (lg_sl ([.ref a, .int (nI c), .int sta])).length) Slot.unset).toArray = ls at hl ⊢
  have hl : lv_has ls 4 [(0, .ref a), (1, .int (nI c)), (2, .int sta)] := hl
  refine lv_aload_n hx hb dX7_goes_0 rfl (lv_at hl 0 rfl) ?_
  refine lv_iload_n hx hb dX7_goes_1 rfl (lv_at hl 1 rfl) ?_
  refine lv_iconst (v := 3) hx hb dX7_goes_2 (by decide) ?_
  refine cl_pi (rS (As := [.ref a, .int (nI c), .int 3]) (rest := []) ⟨hx, hb, hml, hown, hts⟩ (c_X7_of l G a g c 3 (by omega)) (va_cwS 3 hts gX7_goes_X7_of rfl rfl rfl (by decide +kernel) ⟨Nat.le_of_ble_eq_true rfl, Nat.le_of_ble_eq_true rfl⟩) hP hO rfl hl.1 (Nat.le_of_ble_eq_true rfl) dX7_goes_3 ⟨Nat.le_of_ble_eq_true rfl, Nat.le_of_ble_eq_true rfl⟩) ?_
  rw [hpx]
  refine lv_istore_n (lv' := [(3, .int (nI (px g c))), (0, .ref a), (1, .int (nI c)), (2, .int sta)]) hx hb dX7_goes_6 rfl hl (by decide) rfl (fun ls hl => ?_)
  refine lv_aload_n hx hb dX7_goes_7 rfl (lv_at hl 1 rfl) ?_
  refine lv_iload_n hx hb dX7_goes_8 rfl (lv_at hl 0 rfl) ?_
  refine lv_aload_n hx hb dX7_goes_9 rfl (lv_at hl 1 rfl) ?_
  refine lv_iload_n hx hb dX7_goes_10 rfl (lv_at hl 2 rfl) ?_
  refine lv_iconst (v := 0) hx hb dX7_goes_11 (by decide) ?_
  refine cl_pi (rS (As := [.ref a, .int (nI c), .int 0]) (rest := [.int (nI (px g c)), .ref a]) ⟨hx, hb, hml, hown, hts⟩ (c_X7_of l G a g c 0 (by omega)) (va_cwS 3 hts gX7_goes_X7_of rfl rfl rfl (by decide +kernel) ⟨Nat.le_of_ble_eq_true rfl, Nat.le_of_ble_eq_true rfl⟩) hP hO rfl hl.1 (Nat.le_of_ble_eq_true rfl) dX7_goes_12 ⟨Nat.le_of_ble_eq_true rfl, Nat.le_of_ble_eq_true rfl⟩) ?_
  rw [hpj]
  refine lv_iconst (v := -1) hx hb dX7_goes_15 (by decide) ?_
  refine cl_mv (rS (As := [.ref a, .int (nI (px g c)), .int (nI (pj g c)), .int (-1)]) (rest := []) ⟨hx, hb, hml, hown, hts⟩ (c_X7_fill l G a g (px g c) (pj g c) (-1) hpl) (va_cwS 4 hts gX7_goes_X7_fill rfl rfl rfl (by decide +kernel) ⟨Nat.le_of_ble_eq_true rfl, Nat.le_of_ble_eq_true rfl⟩) hP hO rfl hl.1 (Nat.le_of_ble_eq_true rfl) dX7_goes_16 ⟨Nat.le_of_ble_eq_true rfl, Nat.le_of_ble_eq_true rfl⟩) hS hA (fun H locs hP1 hz hk hS => ?_)
  have hP : Arr G 0 a 327 (h_X7_fill g (px g c) (pj g c) (-1)) H := hP1
  refine lv_aload_n hx hb dX7_goes_19 rfl (lv_at hl 1 rfl) ?_
  refine lv_iload_n hx hb dX7_goes_20 rfl (lv_at hl 2 rfl) ?_
  refine lv_iconst (v := 3) hx hb dX7_goes_21 (by decide) ?_
  refine lv_iconst (v := -1) hx hb dX7_goes_22 (by decide) ?_
  refine cl_mv (rS (As := [.ref a, .int (nI c), .int 3, .int (-1)]) (rest := []) ⟨hx, hb, hml, hown, hts⟩ (c_X7_lay l G a (h_X7_fill g (px g c) (pj g c) (-1)) c 3 (-1) (by omega)) (va_cwS 4 hts gX7_goes_X7_lay rfl rfl rfl (by decide +kernel) ⟨Nat.le_of_ble_eq_true rfl, Nat.le_of_ble_eq_true rfl⟩) hP hO rfl hl.1 (Nat.le_of_ble_eq_true rfl) dX7_goes_23 ⟨Nat.le_of_ble_eq_true rfl, Nat.le_of_ble_eq_true rfl⟩) hS hA (fun H locs hP1 hz hk hS => ?_)
  have hP : Arr G 0 a 327 (h_X7_lay (h_X7_fill g (px g c) (pj g c) (-1)) c 3 (-1)) H := hP1
  refine lv_aload_n hx hb dX7_goes_26 rfl (lv_at hl 1 rfl) ?_
  refine lv_iload_n hx hb dX7_goes_27 rfl (lv_at hl 2 rfl) ?_
  refine lv_iconst (v := 2) hx hb dX7_goes_28 (by decide) ?_
  refine lv_iload_n hx hb dX7_goes_29 rfl (lv_at hl 3 rfl) ?_
  refine cl_mv (rS (As := [.ref a, .int (nI c), .int 2, .int sta]) (rest := []) ⟨hx, hb, hml, hown, hts⟩ (c_X7_lay l G a (h_X7_lay (h_X7_fill g (px g c) (pj g c) (-1)) c 3 (-1)) c 2 sta (by omega)) (va_cwS 4 hts gX7_goes_X7_lay rfl rfl rfl (by decide +kernel) ⟨Nat.le_of_ble_eq_true rfl, Nat.le_of_ble_eq_true rfl⟩) hP hO rfl hl.1 (Nat.le_of_ble_eq_true rfl) dX7_goes_30 ⟨Nat.le_of_ble_eq_true rfl, Nat.le_of_ble_eq_true rfl⟩) hS hA (fun H locs hP1 hz hk hS => ?_)
  have hP : Arr G 0 a 327 (h_X7_lay (h_X7_lay (h_X7_fill g (px g c) (pj g c) (-1)) c 3 (-1)) c 2 sta) H := hP1
  refine lv_iload_n hx hb dX7_goes_33 rfl (lv_at hl 0 rfl) ?_
  have hE : h_X7_goes g c sta = (nI (px g c), (h_X7_lay (h_X7_lay (h_X7_fill g (px g c) (pj g c) (-1)) c 3 (-1)) c 2 sta)) := (by rw [h_X7_goes])
  have hE2 := snd_of hE
  exact W.iret hx hb hr (fun t ht hW => ⟨by rw [fst_of hE], by rw [ht, hE2]; exact hP, hS.F ht⟩) hS.2.2 dX7_goes_34

theorem lgc_lt (x y : Int64) : lg_cmp x y < 0 ↔ x.toInt < y.toInt := by
  unfold lg_cmp
  simp only [gt_iff_lt, Int64.lt_iff_toInt_lt, ← Int64.toInt_inj]
  repeat' split
  all_goals first | (constructor <;> intro h <;> first | omega | exact absurd h (by decide)) | skip
  all_goals first | (constructor <;> intro h <;> first | omega | decide) | skip
theorem lgc_gt (x y : Int64) : 0 < lg_cmp x y ↔ y.toInt < x.toInt := by
  unfold lg_cmp
  simp only [gt_iff_lt, Int64.lt_iff_toInt_lt, ← Int64.toInt_inj]
  repeat' split
  all_goals first | (constructor <;> intro h <;> first | omega | exact absurd h (by decide)) | skip
  all_goals first | (constructor <;> intro h <;> first | omega | decide) | skip
theorem in_ne {v lo hi : Int64} (h : ¬ f_X7_in v lo hi = 0) : lo.toInt ≤ v.toInt ∧ v.toInt ≤ hi.toInt := by
  rw [f_X7_in] at h
  by_cases c1 : lg_cmp v lo < 0
  · rw [if_pos c1] at h
    exact absurd rfl h
  · rw [if_neg c1] at h
    by_cases c2 : 0 < lg_cmp v hi
    · rw [if_pos c2] at h
      exact absurd rfl h
    · rw [lgc_lt] at c1
      rw [lgc_gt] at c2
      omega
theorem i64 (x : Int32) : x.toInt64.toInt = x.toInt := Int32.toInt_toInt64 x
theorem rcell {x : Int32} (h : ¬ f_X7_isCell x = 0) : 0 ≤ x.toInt ∧ x.toInt < 80 := by
  rw [f_X7_isCell] at h
  have h1 := in_ne h
  rw [i64, show (0 : Int64).toInt = 0 by decide, show (79 : Int64).toInt = 79 by decide] at h1
  omega
theorem add7 {x : Int32} (h : 0 ≤ x.toInt ∧ x.toInt < 80) : (7 + x).toInt = 7 + x.toInt := by
  rw [Int32.toInt_add, show (7 : Int32).toInt = 7 by decide, Int.bmod_eq_of_le (by omega) (by omega)]
theorem cell_in {x : Int32} (h : ¬ f_X7_isCell x = 0) : vp_in (7 + x) 327 := by
  have h1 := rcell h
  have h2 := add7 h1
  exact vp_in_iff.mpr ⟨by omega, by omega⟩

def f_X7_canHydrant (g : Rw) (x : Int32) (on : Int32) : Int32 :=
  if (f_X7_isCell x) = 0 then 0 else
  if on = 0 then 1 else
  if (g (7 + x).toNatClampNeg) = (-1) then 1 else
  if (g (7 + x).toNatClampNeg) = 100 then 1 else
  0
set_option maxHeartbeats 4000000 in
set_option maxRecDepth 100000 in
theorem c_X7_canHydrant (l : Launch) (G : GG) (a : Nat) (g : Rw) (x : Int32) (on : Int32) : Met l yX7_canHydrant wsX7_canHydrant ({ frames := 2, cells := 0, slots := 0, locals := 45 }) (PcH G [.ref a, .int x, .int on] (Arr G 0 a 327 g)) (QP (some (.int (f_X7_canHydrant g x on)))) 0 0 noA := by
  refine metH (cc := cX7_canHydrant) (maxL := 3) (ret := (some .boolean)) (by decide) rfl ?_
  intro p e s m below meth cd hx hb hr hml hown hts hlocks hP hO
  have hS : va_S noA s.heap s.heap [] := va_S.rf
  have hl := lv_entry ([.ref a, .int x, .int on]) (n := 3) (Nat.le_of_ble_eq_true rfl)
  rw [lg_entry_eq]
  generalize (lg_sl ([.ref a, .int x, .int on]) ++ List.replicate (3 - (lg_sl ([.ref a, .int x, .int on])).length) Slot.unset).toArray = ls at hl ⊢
  have hl : lv_has ls 3 [(0, .ref a), (1, .int x), (2, .int on)] := hl
  refine lv_iload_n hx hb dX7_canHydrant_0 rfl (lv_at hl 1 rfl) ?_
  refine cl_pi (rS (As := [.int x]) (rest := []) ⟨hx, hb, hml, hown, hts⟩ (c_X7_isCell l G x) (va_cwS 1 hts gX7_canHydrant_X7_isCell rfl rfl rfl (by decide +kernel) ⟨Nat.le_of_ble_eq_true rfl, Nat.le_of_ble_eq_true rfl⟩) trivial hO rfl hl.1 (Nat.le_of_ble_eq_true rfl) dX7_canHydrant_1 ⟨Nat.le_of_ble_eq_true rfl, Nat.le_of_ble_eq_true rfl⟩) ?_
  refine lv_if_eq (tgt := 36) hx hb dX7_canHydrant_4 (by decide) (fun c_1 => ?_) (fun c_1 => ?_)
  · refine lv_iconst (v := 0) hx hb dX7_canHydrant_36 (by decide) ?_
    have hE : f_X7_canHydrant g x on = 0 := (by rw [f_X7_canHydrant, if_pos c_1])
    exact W.zret (ty := .boolean) hx hb hr rfl (fun t ht hW => ⟨by rw [hE], ht⟩) hS.2.2 dX7_canHydrant_37
  · refine lv_iload_n hx hb dX7_canHydrant_7 rfl (lv_at hl 2 rfl) ?_
    refine lv_if_eq (tgt := 32) hx hb dX7_canHydrant_8 (by decide) (fun c_2 => ?_) (fun c_2 => ?_)
    · refine lv_iconst (v := 1) hx hb dX7_canHydrant_32 (by decide) ?_
      refine lv_goto (tgt := 37) hx hb dX7_canHydrant_33 (by decide) ?_
      have hE : f_X7_canHydrant g x on = 1 := (by rw [f_X7_canHydrant, if_neg c_1, if_pos c_2])
      exact W.zret (ty := .boolean) hx hb hr rfl (fun t ht hW => ⟨by rw [hE], ht⟩) hS.2.2 dX7_canHydrant_37
    · refine lv_aload_n hx hb dX7_canHydrant_11 rfl (lv_at hl 0 rfl) ?_
      refine lv_bipush (v := 7) hx hb dX7_canHydrant_12 (by decide) ?_
      refine lv_iload_n hx hb dX7_canHydrant_14 rfl (lv_at hl 1 rfl) ?_
      refine lv_iadd hx hb dX7_canHydrant_15 ?_
      refine va_iald hx hb hO.1 hP 0 0 rfl rfl (cell_in (by assumption)) dX7_canHydrant_16 ?_
      refine lv_iconst (v := -1) hx hb dX7_canHydrant_17 (by decide) ?_
      refine lv_icmp_eq (tgt := 32) hx hb dX7_canHydrant_18 (by decide) (fun c_3 => ?_) (fun c_3 => ?_)
      · refine lv_iconst (v := 1) hx hb dX7_canHydrant_32 (by decide) ?_
        refine lv_goto (tgt := 37) hx hb dX7_canHydrant_33 (by decide) ?_
        have hE : f_X7_canHydrant g x on = 1 := (by rw [f_X7_canHydrant, if_neg c_1, if_neg c_2, if_pos c_3])
        exact W.zret (ty := .boolean) hx hb hr rfl (fun t ht hW => ⟨by rw [hE], ht⟩) hS.2.2 dX7_canHydrant_37
      · refine lv_aload_n hx hb dX7_canHydrant_21 rfl (lv_at hl 0 rfl) ?_
        refine lv_bipush (v := 7) hx hb dX7_canHydrant_22 (by decide) ?_
        refine lv_iload_n hx hb dX7_canHydrant_24 rfl (lv_at hl 1 rfl) ?_
        refine lv_iadd hx hb dX7_canHydrant_25 ?_
        refine va_iald hx hb hO.1 hP 0 0 rfl rfl (cell_in (by assumption)) dX7_canHydrant_26 ?_
        refine lv_bipush (v := 100) hx hb dX7_canHydrant_27 (by decide) ?_
        refine lv_icmp_ne (tgt := 36) hx hb dX7_canHydrant_29 (by decide) (fun c_4 => ?_) (fun c_4 => ?_)
        · refine lv_iconst (v := 0) hx hb dX7_canHydrant_36 (by decide) ?_
          have hE : f_X7_canHydrant g x on = 0 := (by rw [f_X7_canHydrant, if_neg c_1, if_neg c_2, if_neg c_3, if_neg c_4])
          exact W.zret (ty := .boolean) hx hb hr rfl (fun t ht hW => ⟨by rw [hE], ht⟩) hS.2.2 dX7_canHydrant_37
        · refine lv_iconst (v := 1) hx hb dX7_canHydrant_32 (by decide) ?_
          refine lv_goto (tgt := 37) hx hb dX7_canHydrant_33 (by decide) ?_
          have hE : f_X7_canHydrant g x on = 1 := (by rw [f_X7_canHydrant, if_neg c_1, if_neg c_2, if_neg c_3, if_pos c_4])
          exact W.zret (ty := .boolean) hx hb hr rfl (fun t ht hW => ⟨by rw [hE], ht⟩) hS.2.2 dX7_canHydrant_37

theorem b_f_X7_canHydrant (g : Rw) (x : Int32) (on : Int32) : f_X7_canHydrant g x on = 0 ∨ f_X7_canHydrant g x on = 1 := by
  unfold f_X7_canHydrant
  repeat' split
  all_goals first | exact Or.inl rfl | exact Or.inr rfl

def h_X7_hydrantOn (g : Rw) (x : Nat) (on : Int32) : Int32 × Rw :=
  if (g (7 + x)) = 100 then (if on = 0 then (if (1 : Int32) = 0 then (f_X7_cellsWith (upd g (7 + x) (g (7 + x))) 100, (upd g (7 + x) (g (7 + x)))) else
      (f_X7_cellsWith (upd g (7 + x) (-1)) 100, (upd g (7 + x) (-1)))) else
    (f_X7_cellsWith (upd g (7 + x) 100) 100, (upd g (7 + x) 100))) else
  if on = 0 then (if (0 : Int32) = 0 then (f_X7_cellsWith (upd g (7 + x) (g (7 + x))) 100, (upd g (7 + x) (g (7 + x)))) else
    (f_X7_cellsWith (upd g (7 + x) (-1)) 100, (upd g (7 + x) (-1)))) else
  (f_X7_cellsWith (upd g (7 + x) 100) 100, (upd g (7 + x) 100))
set_option maxHeartbeats 4000000 in
set_option maxRecDepth 100000 in
theorem c_X7_hydrantOn (l : Launch) (G : GG) (a : Nat) (g : Rw) (x : Nat) (on : Int32) (hx8 : x < 80) : Met l yX7_hydrantOn wsX7_hydrantOn ({ frames := 1, cells := 0, slots := 0, locals := 23 }) (PcH G [.ref a, .int (nI x), .int on] (Arr G 0 a 327 g)) (QM (some (.int ((h_X7_hydrantOn g x on).1))) (Arr G 0 a 327 ((h_X7_hydrantOn g x on).2)) (one a)) 0 0 (one a) := by
  refine metH (cc := cX7_hydrantOn) (maxL := 4) (ret := (some .int)) (by decide) rfl ?_
  intro p e s m below meth cd hx hb hr hml hown hts hlocks hP hO
  have hA : ∀ q, (one a) q → (one a) q := fun _ h => h
  have hS : va_S (one a) s.heap s.heap [] := va_S.rf
  have hl := lv_entry ([.ref a, .int (nI x), .int on]) (n := 4) (Nat.le_of_ble_eq_true rfl)
  rw [lg_entry_eq]
  generalize (lg_sl ([.ref a, .int (nI x), .int on]) ++ List.replicate (4 - (lg_sl ([.ref a, .int (nI x), .int on])).length) Slot.unset).toArray = ls at hl ⊢
  have hl : lv_has ls 4 [(0, .ref a), (1, .int (nI x)), (2, .int on)] := hl
  refine lv_aload_n hx hb dX7_hydrantOn_0 rfl (lv_at hl 0 rfl) ?_
  refine lv_bipush (v := 7) hx hb dX7_hydrantOn_1 (by decide) ?_
  refine lv_iload_n hx hb dX7_hydrantOn_3 rfl (lv_at hl 1 rfl) ?_
  refine iadd_n (a := 7) (b := x) hx hb dX7_hydrantOn_4 ?_
  refine iald_n hx hb hO.1 hP 0 0 rfl rfl (by omega) (by decide) dX7_hydrantOn_5 ?_
  refine lv_bipush (v := 100) hx hb dX7_hydrantOn_6 (by decide) ?_
  refine lv_icmp_ne (tgt := 15) hx hb dX7_hydrantOn_8 (by decide) (fun c_1 => ?_) (fun c_1 => ?_)
  · refine lv_iconst (v := 0) hx hb dX7_hydrantOn_15 (by decide) ?_
    refine lv_istore_n (lv' := [(3, .int 0), (0, .ref a), (1, .int (nI x)), (2, .int on)]) hx hb dX7_hydrantOn_16 rfl hl (by decide) rfl (fun ls hl => ?_)
    refine lv_aload_n hx hb dX7_hydrantOn_17 rfl (lv_at hl 1 rfl) ?_
    refine lv_bipush (v := 7) hx hb dX7_hydrantOn_18 (by decide) ?_
    refine lv_iload_n hx hb dX7_hydrantOn_20 rfl (lv_at hl 2 rfl) ?_
    refine iadd_n (a := 7) (b := x) hx hb dX7_hydrantOn_21 ?_
    refine lv_iload_n hx hb dX7_hydrantOn_22 rfl (lv_at hl 3 rfl) ?_
    refine lv_if_eq (tgt := 31) hx hb dX7_hydrantOn_23 (by decide) (fun c_2 => ?_) (fun c_2 => ?_)
    · refine lv_iload_n hx hb dX7_hydrantOn_31 rfl (lv_at hl 0 rfl) ?_
      refine lv_if_eq (tgt := 39) hx hb dX7_hydrantOn_32 (by decide) (fun c_3 => ?_) (fun c_3 => ?_)
      · refine lv_aload_n hx hb dX7_hydrantOn_39 rfl (lv_at hl 1 rfl) ?_
        refine lv_bipush (v := 7) hx hb dX7_hydrantOn_40 (by decide) ?_
        refine lv_iload_n hx hb dX7_hydrantOn_42 rfl (lv_at hl 2 rfl) ?_
        refine iadd_n (a := 7) (b := x) hx hb dX7_hydrantOn_43 ?_
        refine iald_n hx hb hO.1 hP 0 0 rfl rfl (by omega) (by decide) dX7_hydrantOn_44 ?_
        refine iast_n hx hb hO.1 hP (Arr_D (hA _ rfl)) hS 0 0 rfl rfl (by omega) (by decide) dX7_hydrantOn_45 (fun H locs hP hD hS => ?_)
        have hP : Arr G 0 a 327 (upd g (7 + x) (g (7 + x))) H := id hP
        refine lv_aload_n hx hb dX7_hydrantOn_46 rfl (lv_at hl 1 rfl) ?_
        refine lv_bipush (v := 100) hx hb dX7_hydrantOn_47 (by decide) ?_
        refine cl_pi (rS (As := [.ref a, .int 100]) (rest := []) ⟨hx, hb, hml, hown, hts⟩ (c_X7_cellsWith l G a (upd g (7 + x) (g (7 + x))) 100) (va_cwS 2 hts gX7_hydrantOn_X7_cellsWith rfl rfl rfl (by decide +kernel) ⟨Nat.le_of_ble_eq_true rfl, Nat.le_of_ble_eq_true rfl⟩) hP hO rfl hl.1 (Nat.le_of_ble_eq_true rfl) dX7_hydrantOn_49 ⟨Nat.le_of_ble_eq_true rfl, Nat.le_of_ble_eq_true rfl⟩) ?_
        have hE : h_X7_hydrantOn g x on = (f_X7_cellsWith (upd g (7 + x) (g (7 + x))) 100, (upd g (7 + x) (g (7 + x)))) := (by rw [h_X7_hydrantOn, if_neg c_1, if_pos c_2, if_pos c_3])
        have hE2 := snd_of hE
        exact W.iret hx hb hr (fun t ht hW => ⟨by rw [fst_of hE], by rw [ht, hE2]; exact hP, hS.F ht⟩) hS.2.2 dX7_hydrantOn_52
      · refine lv_iconst (v := -1) hx hb dX7_hydrantOn_35 (by decide) ?_
        refine lv_goto (tgt := 45) hx hb dX7_hydrantOn_36 (by decide) ?_
        refine iast_n hx hb hO.1 hP (Arr_D (hA _ rfl)) hS 0 0 rfl rfl (by omega) (by decide) dX7_hydrantOn_45 (fun H locs hP hD hS => ?_)
        have hP : Arr G 0 a 327 (upd g (7 + x) (-1)) H := id hP
        refine lv_aload_n hx hb dX7_hydrantOn_46 rfl (lv_at hl 1 rfl) ?_
        refine lv_bipush (v := 100) hx hb dX7_hydrantOn_47 (by decide) ?_
        refine cl_pi (rS (As := [.ref a, .int 100]) (rest := []) ⟨hx, hb, hml, hown, hts⟩ (c_X7_cellsWith l G a (upd g (7 + x) (-1)) 100) (va_cwS 2 hts gX7_hydrantOn_X7_cellsWith rfl rfl rfl (by decide +kernel) ⟨Nat.le_of_ble_eq_true rfl, Nat.le_of_ble_eq_true rfl⟩) hP hO rfl hl.1 (Nat.le_of_ble_eq_true rfl) dX7_hydrantOn_49 ⟨Nat.le_of_ble_eq_true rfl, Nat.le_of_ble_eq_true rfl⟩) ?_
        have hE : h_X7_hydrantOn g x on = (f_X7_cellsWith (upd g (7 + x) (-1)) 100, (upd g (7 + x) (-1))) := (by rw [h_X7_hydrantOn, if_neg c_1, if_pos c_2, if_neg c_3])
        have hE2 := snd_of hE
        exact W.iret hx hb hr (fun t ht hW => ⟨by rw [fst_of hE], by rw [ht, hE2]; exact hP, hS.F ht⟩) hS.2.2 dX7_hydrantOn_52
    · refine lv_bipush (v := 100) hx hb dX7_hydrantOn_26 (by decide) ?_
      refine lv_goto (tgt := 45) hx hb dX7_hydrantOn_28 (by decide) ?_
      refine iast_n hx hb hO.1 hP (Arr_D (hA _ rfl)) hS 0 0 rfl rfl (by omega) (by decide) dX7_hydrantOn_45 (fun H locs hP hD hS => ?_)
      have hP : Arr G 0 a 327 (upd g (7 + x) 100) H := id hP
      refine lv_aload_n hx hb dX7_hydrantOn_46 rfl (lv_at hl 1 rfl) ?_
      refine lv_bipush (v := 100) hx hb dX7_hydrantOn_47 (by decide) ?_
      refine cl_pi (rS (As := [.ref a, .int 100]) (rest := []) ⟨hx, hb, hml, hown, hts⟩ (c_X7_cellsWith l G a (upd g (7 + x) 100) 100) (va_cwS 2 hts gX7_hydrantOn_X7_cellsWith rfl rfl rfl (by decide +kernel) ⟨Nat.le_of_ble_eq_true rfl, Nat.le_of_ble_eq_true rfl⟩) hP hO rfl hl.1 (Nat.le_of_ble_eq_true rfl) dX7_hydrantOn_49 ⟨Nat.le_of_ble_eq_true rfl, Nat.le_of_ble_eq_true rfl⟩) ?_
      have hE : h_X7_hydrantOn g x on = (f_X7_cellsWith (upd g (7 + x) 100) 100, (upd g (7 + x) 100)) := (by rw [h_X7_hydrantOn, if_neg c_1, if_neg c_2])
      have hE2 := snd_of hE
      exact W.iret hx hb hr (fun t ht hW => ⟨by rw [fst_of hE], by rw [ht, hE2]; exact hP, hS.F ht⟩) hS.2.2 dX7_hydrantOn_52
  · refine lv_iconst (v := 1) hx hb dX7_hydrantOn_11 (by decide) ?_
    refine lv_goto (tgt := 16) hx hb dX7_hydrantOn_12 (by decide) ?_
    refine lv_istore_n (lv' := [(3, .int 1), (0, .ref a), (1, .int (nI x)), (2, .int on)]) hx hb dX7_hydrantOn_16 rfl hl (by decide) rfl (fun ls hl => ?_)
    refine lv_aload_n hx hb dX7_hydrantOn_17 rfl (lv_at hl 1 rfl) ?_
    refine lv_bipush (v := 7) hx hb dX7_hydrantOn_18 (by decide) ?_
    refine lv_iload_n hx hb dX7_hydrantOn_20 rfl (lv_at hl 2 rfl) ?_
    refine iadd_n (a := 7) (b := x) hx hb dX7_hydrantOn_21 ?_
    refine lv_iload_n hx hb dX7_hydrantOn_22 rfl (lv_at hl 3 rfl) ?_
    refine lv_if_eq (tgt := 31) hx hb dX7_hydrantOn_23 (by decide) (fun c_4 => ?_) (fun c_4 => ?_)
    · refine lv_iload_n hx hb dX7_hydrantOn_31 rfl (lv_at hl 0 rfl) ?_
      refine lv_if_eq (tgt := 39) hx hb dX7_hydrantOn_32 (by decide) (fun c_5 => ?_) (fun c_5 => ?_)
      · refine lv_aload_n hx hb dX7_hydrantOn_39 rfl (lv_at hl 1 rfl) ?_
        refine lv_bipush (v := 7) hx hb dX7_hydrantOn_40 (by decide) ?_
        refine lv_iload_n hx hb dX7_hydrantOn_42 rfl (lv_at hl 2 rfl) ?_
        refine iadd_n (a := 7) (b := x) hx hb dX7_hydrantOn_43 ?_
        refine iald_n hx hb hO.1 hP 0 0 rfl rfl (by omega) (by decide) dX7_hydrantOn_44 ?_
        refine iast_n hx hb hO.1 hP (Arr_D (hA _ rfl)) hS 0 0 rfl rfl (by omega) (by decide) dX7_hydrantOn_45 (fun H locs hP hD hS => ?_)
        have hP : Arr G 0 a 327 (upd g (7 + x) (g (7 + x))) H := id hP
        refine lv_aload_n hx hb dX7_hydrantOn_46 rfl (lv_at hl 1 rfl) ?_
        refine lv_bipush (v := 100) hx hb dX7_hydrantOn_47 (by decide) ?_
        refine cl_pi (rS (As := [.ref a, .int 100]) (rest := []) ⟨hx, hb, hml, hown, hts⟩ (c_X7_cellsWith l G a (upd g (7 + x) (g (7 + x))) 100) (va_cwS 2 hts gX7_hydrantOn_X7_cellsWith rfl rfl rfl (by decide +kernel) ⟨Nat.le_of_ble_eq_true rfl, Nat.le_of_ble_eq_true rfl⟩) hP hO rfl hl.1 (Nat.le_of_ble_eq_true rfl) dX7_hydrantOn_49 ⟨Nat.le_of_ble_eq_true rfl, Nat.le_of_ble_eq_true rfl⟩) ?_
        have hE : h_X7_hydrantOn g x on = (f_X7_cellsWith (upd g (7 + x) (g (7 + x))) 100, (upd g (7 + x) (g (7 + x)))) := (by rw [h_X7_hydrantOn, if_pos c_1, if_pos c_4, if_pos c_5])
        have hE2 := snd_of hE
        exact W.iret hx hb hr (fun t ht hW => ⟨by rw [fst_of hE], by rw [ht, hE2]; exact hP, hS.F ht⟩) hS.2.2 dX7_hydrantOn_52
      · refine lv_iconst (v := -1) hx hb dX7_hydrantOn_35 (by decide) ?_
        refine lv_goto (tgt := 45) hx hb dX7_hydrantOn_36 (by decide) ?_
        refine iast_n hx hb hO.1 hP (Arr_D (hA _ rfl)) hS 0 0 rfl rfl (by omega) (by decide) dX7_hydrantOn_45 (fun H locs hP hD hS => ?_)
        have hP : Arr G 0 a 327 (upd g (7 + x) (-1)) H := id hP
        refine lv_aload_n hx hb dX7_hydrantOn_46 rfl (lv_at hl 1 rfl) ?_
        refine lv_bipush (v := 100) hx hb dX7_hydrantOn_47 (by decide) ?_
        refine cl_pi (rS (As := [.ref a, .int 100]) (rest := []) ⟨hx, hb, hml, hown, hts⟩ (c_X7_cellsWith l G a (upd g (7 + x) (-1)) 100) (va_cwS 2 hts gX7_hydrantOn_X7_cellsWith rfl rfl rfl (by decide +kernel) ⟨Nat.le_of_ble_eq_true rfl, Nat.le_of_ble_eq_true rfl⟩) hP hO rfl hl.1 (Nat.le_of_ble_eq_true rfl) dX7_hydrantOn_49 ⟨Nat.le_of_ble_eq_true rfl, Nat.le_of_ble_eq_true rfl⟩) ?_
        have hE : h_X7_hydrantOn g x on = (f_X7_cellsWith (upd g (7 + x) (-1)) 100, (upd g (7 + x) (-1))) := (by rw [h_X7_hydrantOn, if_pos c_1, if_pos c_4, if_neg c_5])
        have hE2 := snd_of hE
        exact W.iret hx hb hr (fun t ht hW => ⟨by rw [fst_of hE], by rw [ht, hE2]; exact hP, hS.F ht⟩) hS.2.2 dX7_hydrantOn_52
    · refine lv_bipush (v := 100) hx hb dX7_hydrantOn_26 (by decide) ?_
      refine lv_goto (tgt := 45) hx hb dX7_hydrantOn_28 (by decide) ?_
      refine iast_n hx hb hO.1 hP (Arr_D (hA _ rfl)) hS 0 0 rfl rfl (by omega) (by decide) dX7_hydrantOn_45 (fun H locs hP hD hS => ?_)
      have hP : Arr G 0 a 327 (upd g (7 + x) 100) H := id hP
      refine lv_aload_n hx hb dX7_hydrantOn_46 rfl (lv_at hl 1 rfl) ?_
      refine lv_bipush (v := 100) hx hb dX7_hydrantOn_47 (by decide) ?_
      refine cl_pi (rS (As := [.ref a, .int 100]) (rest := []) ⟨hx, hb, hml, hown, hts⟩ (c_X7_cellsWith l G a (upd g (7 + x) 100) 100) (va_cwS 2 hts gX7_hydrantOn_X7_cellsWith rfl rfl rfl (by decide +kernel) ⟨Nat.le_of_ble_eq_true rfl, Nat.le_of_ble_eq_true rfl⟩) hP hO rfl hl.1 (Nat.le_of_ble_eq_true rfl) dX7_hydrantOn_49 ⟨Nat.le_of_ble_eq_true rfl, Nat.le_of_ble_eq_true rfl⟩) ?_
      have hE : h_X7_hydrantOn g x on = (f_X7_cellsWith (upd g (7 + x) 100) 100, (upd g (7 + x) 100)) := (by rw [h_X7_hydrantOn, if_pos c_1, if_neg c_4])
      have hE2 := snd_of hE
      exact W.iret hx hb hr (fun t ht hW => ⟨by rw [fst_of hE], by rw [ht, hE2]; exact hP, hS.F ht⟩) hS.2.2 dX7_hydrantOn_52

def h_X7_change (g : Rw) (w : Nat) (v : Int32) : Int32 × Rw :=
  (g (2 + w), (upd g (2 + w) v))
set_option maxHeartbeats 4000000 in
set_option maxRecDepth 100000 in
theorem c_X7_change (l : Launch) (G : GG) (a : Nat) (g : Rw) (w : Nat) (v : Int32) (hw3 : w < 3) : Met l yX7_change wsX7_change ({ frames := 0, cells := 0, slots := 0, locals := 0 }) (PcH G [.ref a, .int (nI w), .int v] (Arr G 0 a 327 g)) (QM (some (.int ((h_X7_change g w v).1))) (Arr G 0 a 327 ((h_X7_change g w v).2)) (one a)) 0 0 (one a) := by
  refine metH (cc := cX7_change) (maxL := 4) (ret := (some .int)) (by decide) rfl ?_
  intro p e s m below meth cd hx hb hr hml hown hts hlocks hP hO
  have hA : ∀ q, (one a) q → (one a) q := fun _ h => h
  have hS : va_S (one a) s.heap s.heap [] := va_S.rf
  have hl := lv_entry ([.ref a, .int (nI w), .int v]) (n := 4) (Nat.le_of_ble_eq_true rfl)
  rw [lg_entry_eq]
  generalize (lg_sl ([.ref a, .int (nI w), .int v]) ++ List.replicate (4 - (lg_sl ([.ref a, .int (nI w), .int v])).length) Slot.unset).toArray = ls at hl ⊢
  have hl : lv_has ls 4 [(0, .ref a), (1, .int (nI w)), (2, .int v)] := hl
  refine lv_aload_n hx hb dX7_change_0 rfl (lv_at hl 0 rfl) ?_
  refine lv_iconst (v := 2) hx hb dX7_change_1 (by decide) ?_
  refine lv_iload_n hx hb dX7_change_2 rfl (lv_at hl 1 rfl) ?_
  refine iadd_n (a := 2) (b := w) hx hb dX7_change_3 ?_
  refine iald_n hx hb hO.1 hP 0 0 rfl rfl (by omega) (by decide) dX7_change_4 ?_
  refine lv_istore_n (lv' := [(3, .int (g (2 + w))), (0, .ref a), (1, .int (nI w)), (2, .int v)]) hx hb dX7_change_5 rfl hl (by decide) rfl (fun ls hl => ?_)
  refine lv_aload_n hx hb dX7_change_6 rfl (lv_at hl 1 rfl) ?_
  refine lv_iconst (v := 2) hx hb dX7_change_7 (by decide) ?_
  refine lv_iload_n hx hb dX7_change_8 rfl (lv_at hl 2 rfl) ?_
  refine iadd_n (a := 2) (b := w) hx hb dX7_change_9 ?_
  refine lv_iload_n hx hb dX7_change_10 rfl (lv_at hl 3 rfl) ?_
  refine iast_n hx hb hO.1 hP (Arr_D (hA _ rfl)) hS 0 0 rfl rfl (by omega) (by decide) dX7_change_11 (fun H locs hP hD hS => ?_)
  have hP : Arr G 0 a 327 (upd g (2 + w) v) H := id hP
  refine lv_iload_n hx hb dX7_change_12 rfl (lv_at hl 0 rfl) ?_
  have hE : h_X7_change g w v = (g (2 + w), (upd g (2 + w) v)) := (by rw [h_X7_change])
  have hE2 := snd_of hE
  exact W.iret hx hb hr (fun t ht hW => ⟨by rw [fst_of hE], by rw [ht, hE2]; exact hP, hS.F ht⟩) hS.2.2 dX7_change_13

theorem le_nI {a : Nat} (h : nI a ≤ 80) (ha : a < 2 ^ 31) : a ≤ 80 := by
  rw [Int32.le_iff_toInt_le, nI_toInt ha, show (80 : Int32).toInt = 80 by decide] at h
  omega
theorem le_nI' {a : Nat} (h : ¬ 80 < nI a) (ha : a < 2 ^ 31) : a ≤ 80 := by
  rw [Int32.lt_iff_toInt_lt, nI_toInt ha, show (80 : Int32).toInt = 80 by decide] at h
  omega

def lp_rClear (g : Rw) (c : Int32) (to : Nat) : Nat → Int32 → Nat → Int32
  | 0, is, _ => is
  | n + 1, is, k => if (nI to) ≤ (nI k) then is else
    if is = 0 then is else
    if (g (7 + k)) = (-1) then lp_rClear g c to n 1 (k + 1) else
    if (g (7 + k)) = c then lp_rClear g c to n 1 (k + 1) else
    lp_rClear g c to n 0 (k + 1)
def f_X7_isClear (g : Rw) (c : Int32) (fr : Nat) (to : Nat) : Int32 :=
  if 80 < (nI to) then lp_rClear g c to 81 0 fr else
  lp_rClear g c to 81 1 fr
set_option maxHeartbeats 4000000 in
set_option maxRecDepth 100000 in
theorem c_X7_isClear (l : Launch) (G : GG) (a : Nat) (g : Rw) (c : Int32) (fr : Nat) (to : Nat) (hfr : fr ≤ 80) (hto : to < 200) : Met l yX7_isClear wsX7_isClear ({ frames := 0, cells := 0, slots := 0, locals := 0 }) (PcH G [.ref a, .int c, .int (nI fr), .int (nI to)] (Arr G 0 a 327 g)) (QP (some (.int (f_X7_isClear g c fr to)))) 0 0 noA := by
  refine metH (cc := cX7_isClear) (maxL := 6) (ret := (some .boolean)) (by decide) rfl ?_
  intro p e s m below meth cd hx hb hr hml hown hts hlocks hP hO
  have hS : va_S noA s.heap s.heap [] := va_S.rf
  have hl := lv_entry ([.ref a, .int c, .int (nI fr), .int (nI to)]) (n := 6) (Nat.le_of_ble_eq_true rfl)
  rw [lg_entry_eq]
  generalize (lg_sl ([.ref a, .int c, .int (nI fr), .int (nI to)]) ++ List.replicate (6 - (lg_sl ([.ref a, .int c, .int (nI fr), .int (nI to)])).length) Slot.unset).toArray = ls at hl ⊢
  have hl : lv_has ls 6 [(0, .ref a), (1, .int c), (2, .int (nI fr)), (3, .int (nI to))] := hl
  have loop16 : ∀ (n : Nat) (is : Int32) (k : Nat) , k ≤ 80 → 80 < k + n → (is = 0 ∨ to ≤ 80) → (is = 0 ∨ is = 1) → f_X7_isClear g c fr to = lp_rClear g c to n is k → ∀ (ls : Array Slot), lv_has ls 6 [(0, .ref a), (1, .int c), (3, .int (nI to)), (4, .int is), (5, .int (nI k))] → W p l e (headSpec wsX7_isClear ({ frames := 0, cells := 0, slots := 0, locals := 0 } : Room)).room s m ([.ref a, .int c, .int (nI fr), .int (nI to)] : List Value).toArray below meth cd s.heap [] 0 0 (MQ below (QP (some (.int (f_X7_isClear g c fr to)))) ([.ref a, .int c, .int (nI fr), .int (nI to)] : List Value).toArray s 0 0 noA) (F0 m 16 ls []) := by
    intro n
    induction n with
    | zero =>
      intro is k hk hn his hb01 hR ls hl
      exact absurd hn (by omega)
    | succ n ih =>
      intro is k hk hn his hb01 hR ls hl
      refine lv_iload hx hb dX7_isClear_16 (lv_at hl 4 rfl) ?_
      refine lv_iload_n hx hb dX7_isClear_18 rfl (lv_at hl 2 rfl) ?_
      refine lv_icmp_ge (tgt := 62) hx hb dX7_isClear_19 (by decide) (fun c_1 => ?_) (fun c_1 => ?_)
      · refine lv_iload hx hb dX7_isClear_62 (lv_at hl 3 rfl) ?_
        have hE : f_X7_isClear g c fr to = is := (hR.trans (by rw [lp_rClear, if_pos c_1]))
        exact W.zret (ty := .boolean) hx hb hr (nar_b hb01) (fun t ht hW => ⟨by rw [hE], ht⟩) hS.2.2 dX7_isClear_64
      · have hlt : k < to := kN (B := to) c_1 (by omega) (by omega)
        refine lv_iload hx hb dX7_isClear_22 (lv_at hl 3 rfl) ?_
        refine lv_if_eq (tgt := 62) hx hb dX7_isClear_24 (by decide) (fun c_2 => ?_) (fun c_2 => ?_)
        · refine lv_iload hx hb dX7_isClear_62 (lv_at hl 3 rfl) ?_
          have hE : f_X7_isClear g c fr to = is := (hR.trans (by rw [lp_rClear, if_neg c_1, if_pos c_2]))
          exact W.zret (ty := .boolean) hx hb hr (nar_b hb01) (fun t ht hW => ⟨by rw [hE], ht⟩) hS.2.2 dX7_isClear_64
        · refine lv_aload_n hx hb dX7_isClear_27 rfl (lv_at hl 0 rfl) ?_
          refine lv_bipush (v := 7) hx hb dX7_isClear_28 (by decide) ?_
          refine lv_iload hx hb dX7_isClear_30 (lv_at hl 4 rfl) ?_
          refine iadd_n (a := 7) (b := k) hx hb dX7_isClear_32 ?_
          refine iald_n hx hb hO.1 hP 0 0 rfl rfl (by have h9 := his.resolve_left (by assumption); omega) (by decide) dX7_isClear_33 ?_
          refine lv_iconst (v := -1) hx hb dX7_isClear_34 (by decide) ?_
          refine lv_icmp_eq (tgt := 49) hx hb dX7_isClear_35 (by decide) (fun c_3 => ?_) (fun c_3 => ?_)
          · refine lv_iconst (v := 1) hx hb dX7_isClear_49 (by decide) ?_
            refine lv_goto (tgt := 54) hx hb dX7_isClear_50 (by decide) ?_
            refine lv_istore (lv' := [(4, .int 1), (0, .ref a), (1, .int c), (3, .int (nI to)), (5, .int (nI k))]) hx hb dX7_isClear_54 hl (by decide) rfl (fun ls hl => ?_)
            refine lv_iinc (v := nI (k + 1)) (lv' := [(5, .int (nI (k + 1))), (4, .int 1), (0, .ref a), (1, .int c), (3, .int (nI to))]) hx hb dX7_isClear_56 hl (k := 4) rfl (nI_1 _) (by decide) rfl (fun ls hl => ?_)
            refine lv_goto (tgt := 16) hx hb dX7_isClear_59 (by decide) ?_
            have hE_4 : f_X7_isClear g c fr to = lp_rClear g c to n 1 (k + 1) := (hR.trans (by rw [lp_rClear, if_neg c_1, if_neg c_2, if_pos c_3]))
            exact ih 1 (k + 1) (by have h9 := his.resolve_left (by assumption); omega) (by omega) (Or.inr (his.resolve_left (by assumption))) (Or.inr rfl) hE_4 _ (lv_sub hl [2, 3, 4, 1, 0] rfl)
          · refine lv_aload_n hx hb dX7_isClear_38 rfl (lv_at hl 0 rfl) ?_
            refine lv_bipush (v := 7) hx hb dX7_isClear_39 (by decide) ?_
            refine lv_iload hx hb dX7_isClear_41 (lv_at hl 4 rfl) ?_
            refine iadd_n (a := 7) (b := k) hx hb dX7_isClear_43 ?_
            refine iald_n hx hb hO.1 hP 0 0 rfl rfl (by have h9 := his.resolve_left (by assumption); omega) (by decide) dX7_isClear_44 ?_
            refine lv_iload_n hx hb dX7_isClear_45 rfl (lv_at hl 1 rfl) ?_
            refine lv_icmp_ne (tgt := 53) hx hb dX7_isClear_46 (by decide) (fun c_5 => ?_) (fun c_5 => ?_)
            · refine lv_iconst (v := 0) hx hb dX7_isClear_53 (by decide) ?_
              refine lv_istore (lv' := [(4, .int 0), (0, .ref a), (1, .int c), (3, .int (nI to)), (5, .int (nI k))]) hx hb dX7_isClear_54 hl (by decide) rfl (fun ls hl => ?_)
              refine lv_iinc (v := nI (k + 1)) (lv' := [(5, .int (nI (k + 1))), (4, .int 0), (0, .ref a), (1, .int c), (3, .int (nI to))]) hx hb dX7_isClear_56 hl (k := 4) rfl (nI_1 _) (by decide) rfl (fun ls hl => ?_)
              refine lv_goto (tgt := 16) hx hb dX7_isClear_59 (by decide) ?_
              have hE_6 : f_X7_isClear g c fr to = lp_rClear g c to n 0 (k + 1) := (hR.trans (by rw [lp_rClear, if_neg c_1, if_neg c_2, if_neg c_3, if_neg c_5]))
              exact ih 0 (k + 1) (by have h9 := his.resolve_left (by assumption); omega) (by omega) (Or.inl rfl) (Or.inl rfl) hE_6 _ (lv_sub hl [2, 3, 4, 1, 0] rfl)
            · refine lv_iconst (v := 1) hx hb dX7_isClear_49 (by decide) ?_
              refine lv_goto (tgt := 54) hx hb dX7_isClear_50 (by decide) ?_
              refine lv_istore (lv' := [(4, .int 1), (0, .ref a), (1, .int c), (3, .int (nI to)), (5, .int (nI k))]) hx hb dX7_isClear_54 hl (by decide) rfl (fun ls hl => ?_)
              refine lv_iinc (v := nI (k + 1)) (lv' := [(5, .int (nI (k + 1))), (4, .int 1), (0, .ref a), (1, .int c), (3, .int (nI to))]) hx hb dX7_isClear_56 hl (k := 4) rfl (nI_1 _) (by decide) rfl (fun ls hl => ?_)
              refine lv_goto (tgt := 16) hx hb dX7_isClear_59 (by decide) ?_
              have hE_7 : f_X7_isClear g c fr to = lp_rClear g c to n 1 (k + 1) := (hR.trans (by rw [lp_rClear, if_neg c_1, if_neg c_2, if_neg c_3, if_pos c_5]))
              exact ih 1 (k + 1) (by have h9 := his.resolve_left (by assumption); omega) (by omega) (Or.inr (his.resolve_left (by assumption))) (Or.inr rfl) hE_7 _ (lv_sub hl [2, 3, 4, 1, 0] rfl)
  refine lv_iload_n hx hb dX7_isClear_0 rfl (lv_at hl 3 rfl) ?_
  refine lv_bipush (v := 80) hx hb dX7_isClear_1 (by decide) ?_
  refine lv_icmp_gt (tgt := 10) hx hb dX7_isClear_3 (by decide) (fun c_8 => ?_) (fun c_8 => ?_)
  · refine lv_iconst (v := 0) hx hb dX7_isClear_10 (by decide) ?_
    refine lv_istore (lv' := [(4, .int 0), (0, .ref a), (1, .int c), (2, .int (nI fr)), (3, .int (nI to))]) hx hb dX7_isClear_11 hl (by decide) rfl (fun ls hl => ?_)
    refine lv_iload_n hx hb dX7_isClear_13 rfl (lv_at hl 3 rfl) ?_
    refine lv_istore (lv' := [(5, .int (nI fr)), (4, .int 0), (0, .ref a), (1, .int c), (2, .int (nI fr)), (3, .int (nI to))]) hx hb dX7_isClear_14 hl (by decide) rfl (fun ls hl => ?_)
    have hE_9 : f_X7_isClear g c fr to = lp_rClear g c to 81 0 fr := (by rw [f_X7_isClear, if_pos c_8])
    exact loop16 81 0 fr hfr (by omega) (Or.inl rfl) (Or.inl rfl) hE_9 _ (lv_sub hl [2, 3, 5, 1, 0] rfl)
  · refine lv_iconst (v := 1) hx hb dX7_isClear_6 (by decide) ?_
    refine lv_goto (tgt := 11) hx hb dX7_isClear_7 (by decide) ?_
    refine lv_istore (lv' := [(4, .int 1), (0, .ref a), (1, .int c), (2, .int (nI fr)), (3, .int (nI to))]) hx hb dX7_isClear_11 hl (by decide) rfl (fun ls hl => ?_)
    refine lv_iload_n hx hb dX7_isClear_13 rfl (lv_at hl 3 rfl) ?_
    refine lv_istore (lv' := [(5, .int (nI fr)), (4, .int 1), (0, .ref a), (1, .int c), (2, .int (nI fr)), (3, .int (nI to))]) hx hb dX7_isClear_14 hl (by decide) rfl (fun ls hl => ?_)
    have hE_10 : f_X7_isClear g c fr to = lp_rClear g c to 81 1 fr := (by rw [f_X7_isClear, if_neg c_8])
    exact loop16 81 1 fr hfr (by omega) (Or.inr (le_nI' (by assumption) (by omega))) (Or.inr rfl) hE_10 _ (lv_sub hl [2, 3, 5, 1, 0] rfl)

theorem c_X7_of_raw (l : Launch) (G : GG) (a : Nat) (g : Rw) (c : Int32) (w : Nat) (hc : ∃ j, j < 40 ∧ c = nI j) (hw : w < 6) : Met l yX7_of wsX7_of ({ frames := 0, cells := 0, slots := 0, locals := 0 }) (PcH G [.ref a, .int c, .int (nI w)] (Arr G 0 a 327 g)) (QP (some (.int (f_X7_of g c.toNatClampNeg w)))) 0 0 noA := by
  obtain ⟨j, hj, rfl⟩ := hc
  rw [nI_clamp (by omega)]
  exact c_X7_of l G a g j w (by omega)
theorem car_n {g : Rw} {c : Int32} {m : Nat} (hm : g 0 = nI m) (h40 : m ≤ 40) (h : ¬ f_X7_isCar g c = 0) : ∃ j, j < m ∧ c = nI j := by
  rw [f_X7_isCar] at h
  have h1 := in_ne h
  rw [i64, i64, hm, show (0 : Int64).toInt = 0 by decide] at h1
  have h2 : (nI m - 1).toInt = (m : Int) - 1 := by
    rw [Int32.toInt_sub, nI_toInt (by omega), show (1 : Int32).toInt = 1 by decide, Int.bmod_eq_of_le (by omega) (by omega)]
  rw [h2] at h1
  obtain ⟨j, hj, rfl⟩ := nI_of (x := c) (by rw [Int32.lt_iff_toInt_lt, Int32.toInt_zero]; omega)
  rw [nI_toInt hj] at h1
  exact ⟨j, by omega, rfl⟩
theorem car_40 {g : Rw} {c : Int32} (hm : ∃ m, m ≤ 40 ∧ g 0 = nI m) (h : ¬ f_X7_isCar g c = 0) : ∃ j, j < 40 ∧ c = nI j := by
  obtain ⟨m, h40, hm⟩ := hm
  obtain ⟨j, hj, e⟩ := car_n hm h40 h
  exact ⟨j, by omega, e⟩

def f_X7_isParked (g : Rw) (c : Int32) : Int32 :=
  if (f_X7_isCar g c) = 0 then 0 else
  if (f_X7_of g c.toNatClampNeg 2) = 0 then 1 else
  0
set_option maxHeartbeats 4000000 in
set_option maxRecDepth 100000 in
theorem c_X7_isParked (l : Launch) (G : GG) (a : Nat) (g : Rw) (c : Int32) (hm : ∃ m, m ≤ 40 ∧ g 0 = nI m) : Met l yX7_isParked wsX7_isParked ({ frames := 2, cells := 0, slots := 0, locals := 46 }) (PcH G [.ref a, .int c] (Arr G 0 a 327 g)) (QP (some (.int (f_X7_isParked g c)))) 0 0 noA := by
  refine metH (cc := cX7_isParked) (maxL := 2) (ret := (some .boolean)) (by decide) rfl ?_
  intro p e s m below meth cd hx hb hr hml hown hts hlocks hP hO
  have hS : va_S noA s.heap s.heap [] := va_S.rf
  have hl := lv_entry ([.ref a, .int c]) (n := 2) (Nat.le_of_ble_eq_true rfl)
  rw [lg_entry_eq]
  generalize (lg_sl ([.ref a, .int c]) ++ List.replicate (2 - (lg_sl ([.ref a, .int c])).length) Slot.unset).toArray = ls at hl ⊢
  have hl : lv_has ls 2 [(0, .ref a), (1, .int c)] := hl
  refine lv_aload_n hx hb dX7_isParked_0 rfl (lv_at hl 0 rfl) ?_
  refine lv_iload_n hx hb dX7_isParked_1 rfl (lv_at hl 1 rfl) ?_
  refine cl_pi (rS (As := [.ref a, .int c]) (rest := []) ⟨hx, hb, hml, hown, hts⟩ (c_X7_isCar l G a g c) (va_cwS 2 hts gX7_isParked_X7_isCar rfl rfl rfl (by decide +kernel) ⟨Nat.le_of_ble_eq_true rfl, Nat.le_of_ble_eq_true rfl⟩) hP hO rfl hl.1 (Nat.le_of_ble_eq_true rfl) dX7_isParked_2 ⟨Nat.le_of_ble_eq_true rfl, Nat.le_of_ble_eq_true rfl⟩) ?_
  refine lv_if_eq (tgt := 21) hx hb dX7_isParked_5 (by decide) (fun c_1 => ?_) (fun c_1 => ?_)
  · refine lv_iconst (v := 0) hx hb dX7_isParked_21 (by decide) ?_
    have hE : f_X7_isParked g c = 0 := (by rw [f_X7_isParked, if_pos c_1])
    exact W.zret (ty := .boolean) hx hb hr rfl (fun t ht hW => ⟨by rw [hE], ht⟩) hS.2.2 dX7_isParked_22
  · refine lv_aload_n hx hb dX7_isParked_8 rfl (lv_at hl 0 rfl) ?_
    refine lv_iload_n hx hb dX7_isParked_9 rfl (lv_at hl 1 rfl) ?_
    refine lv_iconst (v := 2) hx hb dX7_isParked_10 (by decide) ?_
    refine cl_pi (rS (As := [.ref a, .int c, .int 2]) (rest := []) ⟨hx, hb, hml, hown, hts⟩ (c_X7_of_raw l G a g c 2 (car_40 hm (by assumption)) (by decide)) (va_cwS 3 hts gX7_isParked_X7_of rfl rfl rfl (by decide +kernel) ⟨Nat.le_of_ble_eq_true rfl, Nat.le_of_ble_eq_true rfl⟩) hP hO rfl hl.1 (Nat.le_of_ble_eq_true rfl) dX7_isParked_11 ⟨Nat.le_of_ble_eq_true rfl, Nat.le_of_ble_eq_true rfl⟩) ?_
    refine lv_if_ne (tgt := 21) hx hb dX7_isParked_14 (by decide) (fun c_2 => ?_) (fun c_2 => ?_)
    · refine lv_iconst (v := 0) hx hb dX7_isParked_21 (by decide) ?_
      have hE : f_X7_isParked g c = 0 := (by rw [f_X7_isParked, if_neg c_1, if_neg c_2])
      exact W.zret (ty := .boolean) hx hb hr rfl (fun t ht hW => ⟨by rw [hE], ht⟩) hS.2.2 dX7_isParked_22
    · refine lv_iconst (v := 1) hx hb dX7_isParked_17 (by decide) ?_
      refine lv_goto (tgt := 22) hx hb dX7_isParked_18 (by decide) ?_
      have hE : f_X7_isParked g c = 1 := (by rw [f_X7_isParked, if_neg c_1, if_pos c_2])
      exact W.zret (ty := .boolean) hx hb hr rfl (fun t ht hW => ⟨by rw [hE], ht⟩) hS.2.2 dX7_isParked_22

theorem b_f_X7_isParked (g : Rw) (c : Int32) : f_X7_isParked g c = 0 ∨ f_X7_isParked g c = 1 := by
  unfold f_X7_isParked
  repeat' split
  all_goals first | exact Or.inl rfl | exact Or.inr rfl

def f_X7_canMove (g : Rw) (c : Nat) (x : Nat) : Int32 :=
  if (f_X7_isParked g (nI c)) = 0 then 0 else
  if (f_X7_of g c 3) ≤ (nI x) then (if (f_X7_of g c 3) ≤ (nI x) then (if (f_X7_isClear g (nI c) (px g c) (x + (pj g c))) = 0 then 0 else
      1) else
    if (f_X7_isClear g (nI c) (px g c) ((px g c) + (pj g c))) = 0 then 0 else
    1) else
  if (f_X7_of g c 3) ≤ (nI x) then (if (f_X7_isClear g (nI c) x (x + (pj g c))) = 0 then 0 else
    1) else
  if (f_X7_isClear g (nI c) x ((px g c) + (pj g c))) = 0 then 0 else
  1
set_option maxHeartbeats 4000000 in
set_option maxRecDepth 100000 in
theorem c_X7_canMove (l : Launch) (G : GG) (a : Nat) (g : Rw) (c : Nat) (x : Nat) (hm : ∃ m, m ≤ 40 ∧ g 0 = nI m) (hc : c < 40) (hx8 : x < 80) (hpk : ¬ f_X7_isParked g (nI c) = 0 → f_X7_of g c 3 = nI (px g c) ∧ f_X7_of g c 0 = nI (pj g c) ∧ px g c + pj g c ≤ 80) : Met l yX7_canMove wsX7_canMove ({ frames := 3, cells := 0, slots := 0, locals := 67 }) (PcH G [.ref a, .int (nI c), .int (nI x)] (Arr G 0 a 327 g)) (QP (some (.int (f_X7_canMove g c x)))) 0 0 noA := by
  refine metH (cc := cX7_canMove) (maxL := 5) (ret := (some .boolean)) (by decide) rfl ?_
  intro p e s m below meth cd hx hb hr hml hown hts hlocks hP hO
  have hS : va_S noA s.heap s.heap [] := va_S.rf
  have hl := lv_entry ([.ref a, .int (nI c), .int (nI x)]) (n := 5) (Nat.le_of_ble_eq_true rfl)
  rw [lg_entry_eq]
  generalize (lg_sl ([.ref a, .int (nI c), .int (nI x)]) ++ List.replicate (5 - (lg_sl ([.ref a, .int (nI c), .int (nI x)])).length) Slot.unset).toArray = ls at hl ⊢
  have hl : lv_has ls 5 [(0, .ref a), (1, .int (nI c)), (2, .int (nI x))] := hl
  refine lv_aload_n hx hb dX7_canMove_0 rfl (lv_at hl 0 rfl) ?_
  refine lv_iload_n hx hb dX7_canMove_1 rfl (lv_at hl 1 rfl) ?_
  refine lv_iconst (v := 0) hx hb dX7_canMove_2 (by decide) ?_
  refine cl_pi (rS (As := [.ref a, .int (nI c), .int 0]) (rest := []) ⟨hx, hb, hml, hown, hts⟩ (c_X7_of l G a g c 0 (by omega)) (va_cwS 3 hts gX7_canMove_X7_of rfl rfl rfl (by decide +kernel) ⟨Nat.le_of_ble_eq_true rfl, Nat.le_of_ble_eq_true rfl⟩) hP hO rfl hl.1 (Nat.le_of_ble_eq_true rfl) dX7_canMove_3 ⟨Nat.le_of_ble_eq_true rfl, Nat.le_of_ble_eq_true rfl⟩) ?_
  refine lv_istore_n (lv' := [(3, .int (f_X7_of g c 0)), (0, .ref a), (1, .int (nI c)), (2, .int (nI x))]) hx hb dX7_canMove_6 rfl hl (by decide) rfl (fun ls hl => ?_)
  refine lv_aload_n hx hb dX7_canMove_7 rfl (lv_at hl 1 rfl) ?_
  refine lv_iload_n hx hb dX7_canMove_8 rfl (lv_at hl 2 rfl) ?_
  refine lv_iconst (v := 3) hx hb dX7_canMove_9 (by decide) ?_
  refine cl_pi (rS (As := [.ref a, .int (nI c), .int 3]) (rest := []) ⟨hx, hb, hml, hown, hts⟩ (c_X7_of l G a g c 3 (by omega)) (va_cwS 3 hts gX7_canMove_X7_of rfl rfl rfl (by decide +kernel) ⟨Nat.le_of_ble_eq_true rfl, Nat.le_of_ble_eq_true rfl⟩) hP hO rfl hl.1 (Nat.le_of_ble_eq_true rfl) dX7_canMove_10 ⟨Nat.le_of_ble_eq_true rfl, Nat.le_of_ble_eq_true rfl⟩) ?_
  refine lv_istore (lv' := [(4, .int (f_X7_of g c 3)), (3, .int (f_X7_of g c 0)), (0, .ref a), (1, .int (nI c)), (2, .int (nI x))]) hx hb dX7_canMove_13 hl (by decide) rfl (fun ls hl => ?_)
  refine lv_aload_n hx hb dX7_canMove_15 rfl (lv_at hl 2 rfl) ?_
  refine lv_iload_n hx hb dX7_canMove_16 rfl (lv_at hl 3 rfl) ?_
  refine cl_pi (rS (As := [.ref a, .int (nI c)]) (rest := []) ⟨hx, hb, hml, hown, hts⟩ (c_X7_isParked l G a g (nI c) hm) (va_cwS 2 hts gX7_canMove_X7_isParked rfl rfl rfl (by decide +kernel) ⟨Nat.le_of_ble_eq_true rfl, Nat.le_of_ble_eq_true rfl⟩) hP hO rfl hl.1 (Nat.le_of_ble_eq_true rfl) dX7_canMove_17 ⟨Nat.le_of_ble_eq_true rfl, Nat.le_of_ble_eq_true rfl⟩) ?_
  refine lv_if_eq (tgt := 61) hx hb dX7_canMove_20 (by decide) (fun c_1 => ?_) (fun c_1 => ?_)
  · refine lv_iconst (v := 0) hx hb dX7_canMove_61 (by decide) ?_
    have hE : f_X7_canMove g c x = 0 := (by rw [f_X7_canMove, if_pos c_1])
    exact W.zret (ty := .boolean) hx hb hr rfl (fun t ht hW => ⟨by rw [hE], ht⟩) hS.2.2 dX7_canMove_62
  · refine lv_aload_n hx hb dX7_canMove_23 rfl (lv_at hl 2 rfl) ?_
    refine lv_iload_n hx hb dX7_canMove_24 rfl (lv_at hl 3 rfl) ?_
    refine lv_iload_n hx hb dX7_canMove_25 rfl (lv_at hl 4 rfl) ?_
    refine lv_iload hx hb dX7_canMove_26 (lv_at hl 0 rfl) ?_
    refine lv_icmp_ge (tgt := 35) hx hb dX7_canMove_28 (by decide) (fun c_2 => ?_) (fun c_2 => ?_)
    · refine lv_iload hx hb dX7_canMove_35 (lv_at hl 0 rfl) ?_
      rw [(hpk (by assumption)).1]
      refine lv_iload_n hx hb dX7_canMove_37 rfl (lv_at hl 4 rfl) ?_
      refine lv_iload hx hb dX7_canMove_38 (lv_at hl 0 rfl) ?_
      refine lv_icmp_ge (tgt := 48) hx hb dX7_canMove_40 (by decide) (fun c_3 => ?_) (fun c_3 => ?_)
      · refine lv_iload_n hx hb dX7_canMove_48 rfl (lv_at hl 4 rfl) ?_
        refine lv_iload_n hx hb dX7_canMove_49 rfl (lv_at hl 1 rfl) ?_
        rw [(hpk (by assumption)).2.1]
        refine iadd_n (a := x) (b := pj g c) hx hb dX7_canMove_50 ?_
        refine cl_pi (rS (As := [.ref a, .int (nI c), .int (nI (px g c)), .int (nI (x + (pj g c)))]) (rest := []) ⟨hx, hb, hml, hown, hts⟩ (c_X7_isClear l G a g (nI c) (px g c) (x + (pj g c)) (by have h9 := (hpk (by assumption)).2.2; omega) (by have h9 := (hpk (by assumption)).2.2; omega)) (va_cwS 4 hts gX7_canMove_X7_isClear rfl rfl rfl (by decide +kernel) ⟨Nat.le_of_ble_eq_true rfl, Nat.le_of_ble_eq_true rfl⟩) hP hO rfl hl.1 (Nat.le_of_ble_eq_true rfl) dX7_canMove_51 ⟨Nat.le_of_ble_eq_true rfl, Nat.le_of_ble_eq_true rfl⟩) ?_
        refine lv_if_eq (tgt := 61) hx hb dX7_canMove_54 (by decide) (fun c_4 => ?_) (fun c_4 => ?_)
        · refine lv_iconst (v := 0) hx hb dX7_canMove_61 (by decide) ?_
          have hE : f_X7_canMove g c x = 0 := (by rw [f_X7_canMove, if_neg c_1, if_pos c_2, if_pos c_3, if_pos c_4])
          exact W.zret (ty := .boolean) hx hb hr rfl (fun t ht hW => ⟨by rw [hE], ht⟩) hS.2.2 dX7_canMove_62
        · refine lv_iconst (v := 1) hx hb dX7_canMove_57 (by decide) ?_
          refine lv_goto (tgt := 62) hx hb dX7_canMove_58 (by decide) ?_
          have hE : f_X7_canMove g c x = 1 := (by rw [f_X7_canMove, if_neg c_1, if_pos c_2, if_pos c_3, if_neg c_4])
          exact W.zret (ty := .boolean) hx hb hr rfl (fun t ht hW => ⟨by rw [hE], ht⟩) hS.2.2 dX7_canMove_62
      · refine lv_iload hx hb dX7_canMove_43 (lv_at hl 0 rfl) ?_
        rw [(hpk (by assumption)).1]
        refine lv_goto (tgt := 49) hx hb dX7_canMove_45 (by decide) ?_
        refine lv_iload_n hx hb dX7_canMove_49 rfl (lv_at hl 1 rfl) ?_
        rw [(hpk (by assumption)).2.1]
        refine iadd_n (a := px g c) (b := pj g c) hx hb dX7_canMove_50 ?_
        refine cl_pi (rS (As := [.ref a, .int (nI c), .int (nI (px g c)), .int (nI ((px g c) + (pj g c)))]) (rest := []) ⟨hx, hb, hml, hown, hts⟩ (c_X7_isClear l G a g (nI c) (px g c) ((px g c) + (pj g c)) (by have h9 := (hpk (by assumption)).2.2; omega) (by have h9 := (hpk (by assumption)).2.2; omega)) (va_cwS 4 hts gX7_canMove_X7_isClear rfl rfl rfl (by decide +kernel) ⟨Nat.le_of_ble_eq_true rfl, Nat.le_of_ble_eq_true rfl⟩) hP hO rfl hl.1 (Nat.le_of_ble_eq_true rfl) dX7_canMove_51 ⟨Nat.le_of_ble_eq_true rfl, Nat.le_of_ble_eq_true rfl⟩) ?_
        refine lv_if_eq (tgt := 61) hx hb dX7_canMove_54 (by decide) (fun c_5 => ?_) (fun c_5 => ?_)
        · refine lv_iconst (v := 0) hx hb dX7_canMove_61 (by decide) ?_
          have hE : f_X7_canMove g c x = 0 := (by rw [f_X7_canMove, if_neg c_1, if_pos c_2, if_neg c_3, if_pos c_5])
          exact W.zret (ty := .boolean) hx hb hr rfl (fun t ht hW => ⟨by rw [hE], ht⟩) hS.2.2 dX7_canMove_62
        · refine lv_iconst (v := 1) hx hb dX7_canMove_57 (by decide) ?_
          refine lv_goto (tgt := 62) hx hb dX7_canMove_58 (by decide) ?_
          have hE : f_X7_canMove g c x = 1 := (by rw [f_X7_canMove, if_neg c_1, if_pos c_2, if_neg c_3, if_neg c_5])
          exact W.zret (ty := .boolean) hx hb hr rfl (fun t ht hW => ⟨by rw [hE], ht⟩) hS.2.2 dX7_canMove_62
    · refine lv_iload_n hx hb dX7_canMove_31 rfl (lv_at hl 4 rfl) ?_
      refine lv_goto (tgt := 37) hx hb dX7_canMove_32 (by decide) ?_
      refine lv_iload_n hx hb dX7_canMove_37 rfl (lv_at hl 4 rfl) ?_
      refine lv_iload hx hb dX7_canMove_38 (lv_at hl 0 rfl) ?_
      refine lv_icmp_ge (tgt := 48) hx hb dX7_canMove_40 (by decide) (fun c_6 => ?_) (fun c_6 => ?_)
      · refine lv_iload_n hx hb dX7_canMove_48 rfl (lv_at hl 4 rfl) ?_
        refine lv_iload_n hx hb dX7_canMove_49 rfl (lv_at hl 1 rfl) ?_
        rw [(hpk (by assumption)).2.1]
        refine iadd_n (a := x) (b := pj g c) hx hb dX7_canMove_50 ?_
        refine cl_pi (rS (As := [.ref a, .int (nI c), .int (nI x), .int (nI (x + (pj g c)))]) (rest := []) ⟨hx, hb, hml, hown, hts⟩ (c_X7_isClear l G a g (nI c) x (x + (pj g c)) (by have h9 := (hpk (by assumption)).2.2; omega) (by have h9 := (hpk (by assumption)).2.2; omega)) (va_cwS 4 hts gX7_canMove_X7_isClear rfl rfl rfl (by decide +kernel) ⟨Nat.le_of_ble_eq_true rfl, Nat.le_of_ble_eq_true rfl⟩) hP hO rfl hl.1 (Nat.le_of_ble_eq_true rfl) dX7_canMove_51 ⟨Nat.le_of_ble_eq_true rfl, Nat.le_of_ble_eq_true rfl⟩) ?_
        refine lv_if_eq (tgt := 61) hx hb dX7_canMove_54 (by decide) (fun c_7 => ?_) (fun c_7 => ?_)
        · refine lv_iconst (v := 0) hx hb dX7_canMove_61 (by decide) ?_
          have hE : f_X7_canMove g c x = 0 := (by rw [f_X7_canMove, if_neg c_1, if_neg c_2, if_pos c_6, if_pos c_7])
          exact W.zret (ty := .boolean) hx hb hr rfl (fun t ht hW => ⟨by rw [hE], ht⟩) hS.2.2 dX7_canMove_62
        · refine lv_iconst (v := 1) hx hb dX7_canMove_57 (by decide) ?_
          refine lv_goto (tgt := 62) hx hb dX7_canMove_58 (by decide) ?_
          have hE : f_X7_canMove g c x = 1 := (by rw [f_X7_canMove, if_neg c_1, if_neg c_2, if_pos c_6, if_neg c_7])
          exact W.zret (ty := .boolean) hx hb hr rfl (fun t ht hW => ⟨by rw [hE], ht⟩) hS.2.2 dX7_canMove_62
      · refine lv_iload hx hb dX7_canMove_43 (lv_at hl 0 rfl) ?_
        rw [(hpk (by assumption)).1]
        refine lv_goto (tgt := 49) hx hb dX7_canMove_45 (by decide) ?_
        refine lv_iload_n hx hb dX7_canMove_49 rfl (lv_at hl 1 rfl) ?_
        rw [(hpk (by assumption)).2.1]
        refine iadd_n (a := px g c) (b := pj g c) hx hb dX7_canMove_50 ?_
        refine cl_pi (rS (As := [.ref a, .int (nI c), .int (nI x), .int (nI ((px g c) + (pj g c)))]) (rest := []) ⟨hx, hb, hml, hown, hts⟩ (c_X7_isClear l G a g (nI c) x ((px g c) + (pj g c)) (by have h9 := (hpk (by assumption)).2.2; omega) (by have h9 := (hpk (by assumption)).2.2; omega)) (va_cwS 4 hts gX7_canMove_X7_isClear rfl rfl rfl (by decide +kernel) ⟨Nat.le_of_ble_eq_true rfl, Nat.le_of_ble_eq_true rfl⟩) hP hO rfl hl.1 (Nat.le_of_ble_eq_true rfl) dX7_canMove_51 ⟨Nat.le_of_ble_eq_true rfl, Nat.le_of_ble_eq_true rfl⟩) ?_
        refine lv_if_eq (tgt := 61) hx hb dX7_canMove_54 (by decide) (fun c_8 => ?_) (fun c_8 => ?_)
        · refine lv_iconst (v := 0) hx hb dX7_canMove_61 (by decide) ?_
          have hE : f_X7_canMove g c x = 0 := (by rw [f_X7_canMove, if_neg c_1, if_neg c_2, if_neg c_6, if_pos c_8])
          exact W.zret (ty := .boolean) hx hb hr rfl (fun t ht hW => ⟨by rw [hE], ht⟩) hS.2.2 dX7_canMove_62
        · refine lv_iconst (v := 1) hx hb dX7_canMove_57 (by decide) ?_
          refine lv_goto (tgt := 62) hx hb dX7_canMove_58 (by decide) ?_
          have hE : f_X7_canMove g c x = 1 := (by rw [f_X7_canMove, if_neg c_1, if_neg c_2, if_neg c_6, if_neg c_8])
          exact W.zret (ty := .boolean) hx hb hr rfl (fun t ht hW => ⟨by rw [hE], ht⟩) hS.2.2 dX7_canMove_62

theorem b_f_X7_canMove (g : Rw) (c : Nat) (x : Nat) : f_X7_canMove g c x = 0 ∨ f_X7_canMove g c x = 1 := by
  unfold f_X7_canMove
  repeat' split
  all_goals first | exact Or.inl rfl | exact Or.inr rfl

def h_X7_moveOn (g : Rw) (c : Nat) (x : Nat) : Int32 × Rw :=
  if (nI (px g c)) ≤ (nI x) then ((nI x) - (nI (px g c)), (h_X7_lay (h_X7_fill (h_X7_fill g (px g c) (pj g c) (-1)) x (pj g c) (nI c)) c 3 (nI x))) else
  ((nI (px g c)) - (nI x), (h_X7_lay (h_X7_fill (h_X7_fill g (px g c) (pj g c) (-1)) x (pj g c) (nI c)) c 3 (nI x)))
set_option maxHeartbeats 4000000 in
set_option maxRecDepth 100000 in
theorem c_X7_moveOn (l : Launch) (G : GG) (a : Nat) (g : Rw) (c : Nat) (x : Nat) (hc : c < 40) (hpx : f_X7_of g c 3 = nI (px g c)) (hpj : f_X7_of g c 0 = nI (pj g c)) (hpl : px g c + pj g c ≤ 80) (hxp : x + pj g c ≤ 80) : Met l yX7_moveOn wsX7_moveOn ({ frames := 1, cells := 0, slots := 0, locals := 24 }) (PcH G [.ref a, .int (nI c), .int (nI x)] (Arr G 0 a 327 g)) (QM (some (.int ((h_X7_moveOn g c x).1))) (Arr G 0 a 327 ((h_X7_moveOn g c x).2)) (one a)) 0 0 (one a) := by
  refine metH (cc := cX7_moveOn) (maxL := 4) (ret := (some .int)) (by decide) rfl ?_
  intro p e s m below meth cd hx hb hr hml hown hts hlocks hP hO
  have hA : ∀ q, (one a) q → (one a) q := fun _ h => h
  have hS : va_S (one a) s.heap s.heap [] := va_S.rf
  have hl := lv_entry ([.ref a, .int (nI c), .int (nI x)]) (n := 4) (Nat.le_of_ble_eq_true rfl)
  rw [lg_entry_eq]
  generalize (lg_sl ([.ref a, .int (nI c), .int (nI x)]) ++ List.replicate (4 - (lg_sl ([.ref a, .int (nI c), .int (nI x)])).length) Slot.unset).toArray = ls at hl ⊢
  have hl : lv_has ls 4 [(0, .ref a), (1, .int (nI c)), (2, .int (nI x))] := hl
  refine lv_aload_n hx hb dX7_moveOn_0 rfl (lv_at hl 0 rfl) ?_
  refine lv_iload_n hx hb dX7_moveOn_1 rfl (lv_at hl 1 rfl) ?_
  refine lv_iconst (v := 3) hx hb dX7_moveOn_2 (by decide) ?_
  refine cl_pi (rS (As := [.ref a, .int (nI c), .int 3]) (rest := []) ⟨hx, hb, hml, hown, hts⟩ (c_X7_of l G a g c 3 (by omega)) (va_cwS 3 hts gX7_moveOn_X7_of rfl rfl rfl (by decide +kernel) ⟨Nat.le_of_ble_eq_true rfl, Nat.le_of_ble_eq_true rfl⟩) hP hO rfl hl.1 (Nat.le_of_ble_eq_true rfl) dX7_moveOn_3 ⟨Nat.le_of_ble_eq_true rfl, Nat.le_of_ble_eq_true rfl⟩) ?_
  rw [hpx]
  refine lv_istore_n (lv' := [(3, .int (nI (px g c))), (0, .ref a), (1, .int (nI c)), (2, .int (nI x))]) hx hb dX7_moveOn_6 rfl hl (by decide) rfl (fun ls hl => ?_)
  refine lv_aload_n hx hb dX7_moveOn_7 rfl (lv_at hl 1 rfl) ?_
  refine lv_iload_n hx hb dX7_moveOn_8 rfl (lv_at hl 0 rfl) ?_
  refine lv_aload_n hx hb dX7_moveOn_9 rfl (lv_at hl 1 rfl) ?_
  refine lv_iload_n hx hb dX7_moveOn_10 rfl (lv_at hl 2 rfl) ?_
  refine lv_iconst (v := 0) hx hb dX7_moveOn_11 (by decide) ?_
  refine cl_pi (rS (As := [.ref a, .int (nI c), .int 0]) (rest := [.int (nI (px g c)), .ref a]) ⟨hx, hb, hml, hown, hts⟩ (c_X7_of l G a g c 0 (by omega)) (va_cwS 3 hts gX7_moveOn_X7_of rfl rfl rfl (by decide +kernel) ⟨Nat.le_of_ble_eq_true rfl, Nat.le_of_ble_eq_true rfl⟩) hP hO rfl hl.1 (Nat.le_of_ble_eq_true rfl) dX7_moveOn_12 ⟨Nat.le_of_ble_eq_true rfl, Nat.le_of_ble_eq_true rfl⟩) ?_
  rw [hpj]
  refine lv_iconst (v := -1) hx hb dX7_moveOn_15 (by decide) ?_
  refine cl_mv (rS (As := [.ref a, .int (nI (px g c)), .int (nI (pj g c)), .int (-1)]) (rest := []) ⟨hx, hb, hml, hown, hts⟩ (c_X7_fill l G a g (px g c) (pj g c) (-1) hpl) (va_cwS 4 hts gX7_moveOn_X7_fill rfl rfl rfl (by decide +kernel) ⟨Nat.le_of_ble_eq_true rfl, Nat.le_of_ble_eq_true rfl⟩) hP hO rfl hl.1 (Nat.le_of_ble_eq_true rfl) dX7_moveOn_16 ⟨Nat.le_of_ble_eq_true rfl, Nat.le_of_ble_eq_true rfl⟩) hS hA (fun H locs hP1 hz hk hS => ?_)
  have hP : Arr G 0 a 327 (h_X7_fill g (px g c) (pj g c) (-1)) H := hP1
  refine lv_aload_n hx hb dX7_moveOn_19 rfl (lv_at hl 1 rfl) ?_
  refine lv_iload_n hx hb dX7_moveOn_20 rfl (lv_at hl 3 rfl) ?_
  refine lv_aload_n hx hb dX7_moveOn_21 rfl (lv_at hl 1 rfl) ?_
  refine lv_iload_n hx hb dX7_moveOn_22 rfl (lv_at hl 2 rfl) ?_
  refine lv_iconst (v := 0) hx hb dX7_moveOn_23 (by decide) ?_
  refine cl_pi (rS (As := [.ref a, .int (nI c), .int 0]) (rest := [.int (nI x), .ref a]) ⟨hx, hb, hml, hown, hts⟩ (c_X7_of l G a (h_X7_fill g (px g c) (pj g c) (-1)) c 0 (by omega)) (va_cwS 3 hts gX7_moveOn_X7_of rfl rfl rfl (by decide +kernel) ⟨Nat.le_of_ble_eq_true rfl, Nat.le_of_ble_eq_true rfl⟩) hP hO rfl hl.1 (Nat.le_of_ble_eq_true rfl) dX7_moveOn_24 ⟨Nat.le_of_ble_eq_true rfl, Nat.le_of_ble_eq_true rfl⟩) ?_
  rw [(of_fill g _ hpl c 0).trans hpj]
  refine lv_iload_n hx hb dX7_moveOn_27 rfl (lv_at hl 2 rfl) ?_
  refine cl_mv (rS (As := [.ref a, .int (nI x), .int (nI (pj g c)), .int (nI c)]) (rest := []) ⟨hx, hb, hml, hown, hts⟩ (c_X7_fill l G a (h_X7_fill g (px g c) (pj g c) (-1)) x (pj g c) (nI c) hxp) (va_cwS 4 hts gX7_moveOn_X7_fill rfl rfl rfl (by decide +kernel) ⟨Nat.le_of_ble_eq_true rfl, Nat.le_of_ble_eq_true rfl⟩) hP hO rfl hl.1 (Nat.le_of_ble_eq_true rfl) dX7_moveOn_28 ⟨Nat.le_of_ble_eq_true rfl, Nat.le_of_ble_eq_true rfl⟩) hS hA (fun H locs hP1 hz hk hS => ?_)
  have hP : Arr G 0 a 327 (h_X7_fill (h_X7_fill g (px g c) (pj g c) (-1)) x (pj g c) (nI c)) H := hP1
  refine lv_aload_n hx hb dX7_moveOn_31 rfl (lv_at hl 1 rfl) ?_
  refine lv_iload_n hx hb dX7_moveOn_32 rfl (lv_at hl 2 rfl) ?_
  refine lv_iconst (v := 3) hx hb dX7_moveOn_33 (by decide) ?_
  refine lv_iload_n hx hb dX7_moveOn_34 rfl (lv_at hl 3 rfl) ?_
  refine cl_mv (rS (As := [.ref a, .int (nI c), .int 3, .int (nI x)]) (rest := []) ⟨hx, hb, hml, hown, hts⟩ (c_X7_lay l G a (h_X7_fill (h_X7_fill g (px g c) (pj g c) (-1)) x (pj g c) (nI c)) c 3 (nI x) (by omega)) (va_cwS 4 hts gX7_moveOn_X7_lay rfl rfl rfl (by decide +kernel) ⟨Nat.le_of_ble_eq_true rfl, Nat.le_of_ble_eq_true rfl⟩) hP hO rfl hl.1 (Nat.le_of_ble_eq_true rfl) dX7_moveOn_35 ⟨Nat.le_of_ble_eq_true rfl, Nat.le_of_ble_eq_true rfl⟩) hS hA (fun H locs hP1 hz hk hS => ?_)
  have hP : Arr G 0 a 327 (h_X7_lay (h_X7_fill (h_X7_fill g (px g c) (pj g c) (-1)) x (pj g c) (nI c)) c 3 (nI x)) H := hP1
  refine lv_iload_n hx hb dX7_moveOn_38 rfl (lv_at hl 3 rfl) ?_
  refine lv_iload_n hx hb dX7_moveOn_39 rfl (lv_at hl 0 rfl) ?_
  refine lv_icmp_ge (tgt := 49) hx hb dX7_moveOn_40 (by decide) (fun c_1 => ?_) (fun c_1 => ?_)
  · refine lv_iload_n hx hb dX7_moveOn_49 rfl (lv_at hl 3 rfl) ?_
    refine lv_iload_n hx hb dX7_moveOn_50 rfl (lv_at hl 0 rfl) ?_
    refine lv_isub hx hb dX7_moveOn_51 ?_
    have hE : h_X7_moveOn g c x = ((nI x) - (nI (px g c)), (h_X7_lay (h_X7_fill (h_X7_fill g (px g c) (pj g c) (-1)) x (pj g c) (nI c)) c 3 (nI x))) := (by rw [h_X7_moveOn, if_pos c_1])
    have hE2 := snd_of hE
    exact W.iret hx hb hr (fun t ht hW => ⟨by rw [fst_of hE], by rw [ht, hE2]; exact hP, hS.F ht⟩) hS.2.2 dX7_moveOn_52
  · refine lv_iload_n hx hb dX7_moveOn_43 rfl (lv_at hl 0 rfl) ?_
    refine lv_iload_n hx hb dX7_moveOn_44 rfl (lv_at hl 3 rfl) ?_
    refine lv_isub hx hb dX7_moveOn_45 ?_
    refine lv_goto (tgt := 52) hx hb dX7_moveOn_46 (by decide) ?_
    have hE : h_X7_moveOn g c x = ((nI (px g c)) - (nI x), (h_X7_lay (h_X7_fill (h_X7_fill g (px g c) (pj g c) (-1)) x (pj g c) (nI c)) c 3 (nI x))) := (by rw [h_X7_moveOn, if_neg c_1])
    have hE2 := snd_of hE
    exact W.iret hx hb hr (fun t ht hW => ⟨by rw [fst_of hE], by rw [ht, hE2]; exact hP, hS.F ht⟩) hS.2.2 dX7_moveOn_52
