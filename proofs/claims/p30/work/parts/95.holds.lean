set_option maxHeartbeats 32000000 in
set_option maxRecDepth 100000 in
theorem c_L_holds (l : Launch) (G : GG) (b : Nat) (X : Cx) (M : Mo) (hst : l.stackTraces = false) (RX : RelX X M) : Met l yL_holds wsL_holds ({ frames := 12, cells := 2000, slots := 12000, locals := 210 }) (PcN G (blk b (b + 170)) [.ref b] (Cb G b X)) (QM (some (.int 1)) (fun H => ∃ T, Cb G b (yR X T) H) (blk b (b + 170))) 2000 12000 (blk b (b + 170)) := by
  refine metN (cc := cL_holds) (maxL := 17) (ret := (some .boolean)) (by decide) rfl ?_
  intro p e s m below meth cd hx hb hr hml hown hts hlocks hP hO hTh hN
  have hg40 := RX.nw.2.ri.m.2
  have hgaps := gaps_le (mN M)
  have hlon : f_X7_longest (mN M) ≤ 80 := by
    rw [longest_gmx]
    exact gmx_le (mN M) (f_X7_gaps (mN M)) (Nat.le_refl _)
  obtain ⟨⟨-, l3⟩, ⟨-, l4a, l4b⟩, -⟩ := RX.nw.2.num
  have h5 := cars_5 RX.nw.2
  have h80 := cells_80 RX.nw.2
  have hS : va_S (blk b (b + 170)) s.heap s.heap [] := va_S.rf
  have hl := lv_entry ([.ref b]) (n := 17) (Nat.le_of_ble_eq_true rfl)
  rw [lg_entry_eq]
  generalize (lg_sl ([.ref b]) ++ List.replicate (17 - (lg_sl ([.ref b])).length) Slot.unset).toArray = ls at hl ⊢
  have hl : lv_has ls 17 [(0, .ref b)] := hl
  have cut594 : ∀ (n594 : Nat) (j : Nat) (T : St), 9 < j + n594 → 2 ≤ j → j ≤ 9 → ∀ (H : Heap) (locs : List Loc) (ls : Array Slot), Cb G b (yR X T) H → va_S (blk b (b + 170)) s.heap H locs → lv_has ls 17 [(0, .ref b), (1, .int (nI (gm (mN M)))), (2, .int (nI (f_X7_gaps (mN M)))), (3, .int (nI (cO (mN M)))), (4, .int (nI (sm (lk (mN M)) (gm (mN M))))), (5, .int (nI (sm (isT (mN M) 0) (gm (mN M))))), (6, .int (nI (sm (nwK (mN M)) (gm (mN M))))), (7, .int (nI (cE (mN M)))), (8, .int 1), (9, .int (nI (sm (isC (mN M) (-1)) 80))), (10, .int (nI (f_X7_longest (mN M)))), (12, .int (nI j))] → W p l e (headSpec wsL_holds ({ frames := 12, cells := 2000, slots := 12000, locals := 210 } : Room)).room s m ([.ref b] : List Value).toArray below meth cd H locs (1300 + 20 * j) (7800 + 120 * j) (MQ below (QM (some (.int 1)) (fun H => ∃ T, Cb G b (yR X T) H) (blk b (b + 170))) ([.ref b] : List Value).toArray s 2000 12000 (blk b (b + 170))) (F0 m 594 ls []) := by
    intro n594
    induction n594 with
    | zero =>
      intro j T hn594 hj1 hj9
      omega
    | succ n594 ih594 =>
      intro j T hn594 hj1 hj9 H locs ls hP hS hl
      have cut795 : ∀ (n795 : Nat) (x : Nat) (y : Nat) (T9 : St), 80 < y + n795 → 2 ≤ j ∧ j ≤ 8 → x + j ≤ 80 → (∀ i, x ≤ i → i < x + j → (mN M) (7 + i) = -1) → x ≤ y → y ≤ x + j → ∀ (H : Heap) (locs : List Loc) (ls : Array Slot), Cb G b (yR X T9) H → va_S (blk b (b + 170)) s.heap H locs → lv_has ls 17 [(0, .ref b), (1, .int (nI (gm (mN M)))), (2, .int (nI (f_X7_gaps (mN M)))), (3, .int (nI (cO (mN M)))), (4, .int (nI (sm (lk (mN M)) (gm (mN M))))), (5, .int (nI (sm (isT (mN M) 0) (gm (mN M))))), (6, .int (nI (sm (nwK (mN M)) (gm (mN M))))), (7, .int (nI (cE (mN M)))), (8, .int 1), (9, .int (nI (sm (isC (mN M) (-1)) 80))), (10, .int (nI (f_X7_longest (mN M)))), (12, .int (nI j)), (13, .int (nI x)), (16, .int (nI y))] → W p l e (headSpec wsL_holds ({ frames := 12, cells := 2000, slots := 12000, locals := 210 } : Room)).room s m ([.ref b] : List Value).toArray below meth cd H locs (1300 + 20 * j + 8 + (y - x)) (7800 + 120 * j + 48 + 6 * (y - x)) (MQ below (QM (some (.int 1)) (fun H => ∃ T, Cb G b (yR X T) H) (blk b (b + 170))) ([.ref b] : List Value).toArray s 2000 12000 (blk b (b + 170))) (F0 m 795 ls []) := by
        intro n795
        induction n795 with
        | zero =>
          intro x y T9 hn795 hj hx8 hfr hy1 hy2
          omega
        | succ n795 ih795 =>
          intro x y T9 hn795 hj hx8 hfr hy1 hy2 H locs ls hP hS hl
          refine lv_iload hx hb dL_holds_795 (lv_at hl 13 rfl) ?_
          refine lv_iload hx hb dL_holds_797 (lv_at hl 12 rfl) ?_
          refine lv_iload hx hb dL_holds_799 (lv_at hl 11 rfl) ?_
          refine iadd_n (a := x) (b := j) hx hb dL_holds_801 ?_
          refine lv_icmp_ge (tgt := 842) hx hb dL_holds_802 (by decide) (fun c1 => ?_) (fun c1 => ?_)
          · have c1f : x + j ≤ y := (nI_leI (a := x + j) (b := y) (by omega) (by omega)).mp c1
            refine lv_iinc (v := nI (j + 1)) (lv' := [(12, .int (nI (j + 1))), (0, .ref b), (1, .int (nI (gm (mN M)))), (2, .int (nI (f_X7_gaps (mN M)))), (3, .int (nI (cO (mN M)))), (4, .int (nI (sm (lk (mN M)) (gm (mN M))))), (5, .int (nI (sm (isT (mN M) 0) (gm (mN M))))), (6, .int (nI (sm (nwK (mN M)) (gm (mN M))))), (7, .int (nI (cE (mN M)))), (8, .int 1), (9, .int (nI (sm (isC (mN M) (-1)) 80))), (10, .int (nI (f_X7_longest (mN M)))), (13, .int (nI x)), (16, .int (nI y))]) hx hb dL_holds_842 hl (k := 11) rfl (nI_1 _) (by decide) rfl (fun ls hl => ?_)
            refine lv_goto (tgt := 594) hx hb dL_holds_845 (by decide) ?_
            refine W.widen (k := 1300 + 20 * (j + 1)) (n := 7800 + 120 * (j + 1)) (by omega) (by omega) ?_
            exact ih594 (j + 1) T9 (by omega) (by omega) (by omega) _ _ _ hP hS (lv_sub hl [1, 2, 3, 4, 5, 6, 7, 8, 9, 10, 11, 0] rfl)
          · have c1f : ¬ (x + j) ≤ y := fun z => c1 ((nI_leI (a := x + j) (b := y) (by omega) (by omega)).mpr z)
            refine lv_iload hx hb dL_holds_805 (lv_at hl 8 rfl) ?_
            refine lv_if_eq (tgt := 842) hx hb dL_holds_807 (by decide) (fun c2 => absurd c2 (by decide)) (fun _ => ?_)
            refine lv_iload hx hb dL_holds_810 (lv_at hl 12 rfl) ?_
            refine lv_iconst (v := -1) hx hb dL_holds_812 (by decide) ?_
            refine lv_icmp_eq (tgt := 842) hx hb dL_holds_813 (by decide) (fun c3 => absurd c3 (nI_m1 (a := x) (by omega))) (fun _ => ?_)
            refine lv_aload_n hx hb dL_holds_816 rfl (lv_at hl 0 rfl) ?_
            refine lv_iconst (v := 4) hx hb dL_holds_817 (by decide) ?_
            refine lv_iload hx hb dL_holds_818 (lv_at hl 13 rfl) ?_
            refine lv_iconst (v := 0) hx hb dL_holds_820 (by decide) ?_
            refine lv_iconst (v := 0) hx hb dL_holds_821 (by decide) ?_
            refine cl_o1 (rSP (A := blk b (b + 170)) (As := [.ref b, .int 4, .int (nI y), .int 0, .int 0]) (rest := []) ⟨hx, hb, hml, hown, hts⟩ (c_call_4 l G b (yR X T9) (nI y) 0 0 (-1) (yR X T9) hst ((rd_at (RX.yR T9) (x := y) (by omega)).trans (by rw [hfr y (by omega) (by omega)]))) (va_cwS 5 hts gL_holds_L_call rfl rfl rfl (by decide +kernel) ⟨(Nat.le_of_ble_eq_true rfl), (Nat.le_of_ble_eq_true rfl)⟩) hP hO (thr_at hTh hS (fun q h => h)) hN rfl hl.1 (Nat.le_of_ble_eq_true rfl) dL_holds_822 ⟨(by show 1300 + 20 * j + 8 + (y - x) + 1 ≤ 2000; omega), (by show 7800 + 120 * j + 48 + 6 * (y - x) + 6 ≤ 12000; omega)⟩) hS (fun q h => h) (fun H locs hP hS => ?_)
            refine lv_iconst (v := -1) hx hb dL_holds_825 (by decide) ?_
            refine lv_icmp_ne (tgt := 833) hx hb dL_holds_826 (by decide) (fun c4 => absurd (by decide) c4) (fun _ => ?_)
            refine lv_iconst (v := 1) hx hb dL_holds_829 (by decide) ?_
            refine lv_goto (tgt := 834) hx hb dL_holds_830 (by decide) ?_
            refine lv_istore (lv' := [(8, .int 1), (0, .ref b), (1, .int (nI (gm (mN M)))), (2, .int (nI (f_X7_gaps (mN M)))), (3, .int (nI (cO (mN M)))), (4, .int (nI (sm (lk (mN M)) (gm (mN M))))), (5, .int (nI (sm (isT (mN M) 0) (gm (mN M))))), (6, .int (nI (sm (nwK (mN M)) (gm (mN M))))), (7, .int (nI (cE (mN M)))), (9, .int (nI (sm (isC (mN M) (-1)) 80))), (10, .int (nI (f_X7_longest (mN M)))), (12, .int (nI j)), (13, .int (nI x)), (16, .int (nI y))]) hx hb dL_holds_834 hl (by decide) rfl (fun ls hl => ?_)
            refine lv_iinc (v := nI (y + 1)) (lv' := [(16, .int (nI (y + 1))), (8, .int 1), (0, .ref b), (1, .int (nI (gm (mN M)))), (2, .int (nI (f_X7_gaps (mN M)))), (3, .int (nI (cO (mN M)))), (4, .int (nI (sm (lk (mN M)) (gm (mN M))))), (5, .int (nI (sm (isT (mN M) 0) (gm (mN M))))), (6, .int (nI (sm (nwK (mN M)) (gm (mN M))))), (7, .int (nI (cE (mN M)))), (9, .int (nI (sm (isC (mN M) (-1)) 80))), (10, .int (nI (f_X7_longest (mN M)))), (12, .int (nI j)), (13, .int (nI x))]) hx hb dL_holds_836 hl (k := 13) rfl (nI_1 _) (by decide) rfl (fun ls hl => ?_)
            refine lv_goto (tgt := 795) hx hb dL_holds_839 (by decide) ?_
            refine W.widen (k := 1300 + 20 * j + 8 + ((y + 1) - x)) (n := 7800 + 120 * j + 48 + 6 * ((y + 1) - x)) (by omega) (by omega) ?_
            exact ih795 x (y + 1) T9 (by omega) hj hx8 hfr (by omega) (by omega) _ _ _ hP hS (lv_sub hl [2, 3, 4, 5, 6, 7, 8, 9, 1, 10, 11, 12, 13, 0] rfl)
      refine lv_iload hx hb dL_holds_594 (lv_at hl 11 rfl) ?_
      refine lv_bipush (v := 9) hx hb dL_holds_596 (by decide) ?_
      refine lv_icmp_ge (tgt := 848) hx hb dL_holds_598 (by decide) (fun c5 => ?_) (fun c5 => ?_)
      · have c5f : 9 ≤ j := (nI_leI (a := 9) (b := j) (by omega) (by omega)).mp c5
        refine lv_iload hx hb dL_holds_848 (lv_at hl 8 rfl) ?_
        refine lv_if_eq (tgt := 937) hx hb dL_holds_850 (by decide) (fun c6 => absurd c6 (by decide)) (fun _ => ?_)
        refine lv_iload hx hb dL_holds_853 (lv_at hl 7 rfl) ?_
        refine lv_if_le (tgt := 937) hx hb dL_holds_855 (by decide) (fun c7 => absurd c7 (nI_ge (a := 0) (b := cE (mN M)) (by omega) (by omega))) (fun _ => ?_)
        refine lv_iload hx hb dL_holds_858 (lv_at hl 5 rfl) ?_
        refine lv_aload_n hx hb dL_holds_860 rfl (lv_at hl 0 rfl) ?_
        refine lv_iconst (v := 2) hx hb dL_holds_861 (by decide) ?_
        refine lv_iconst (v := 1) hx hb dL_holds_862 (by decide) ?_
        refine lv_iconst (v := 0) hx hb dL_holds_863 (by decide) ?_
        refine lv_iconst (v := 0) hx hb dL_holds_864 (by decide) ?_
        refine cl_o1 (rSP (A := blk b (b + 170)) (As := [.ref b, .int 2, .int 1, .int 0, .int 0]) (rest := [.int (nI (sm (isT (mN M) 0) (gm (mN M))))]) ⟨hx, hb, hml, hown, hts⟩ (c_call_2 l G b (yR X T) 1 0 0 (nI (sm (isT (mN M) 0) (gm (mN M)))) (yR X T) hst (rd_ab1 (RX.yR T))) (va_cwS 5 hts gL_holds_L_call rfl rfl rfl (by decide +kernel) ⟨(Nat.le_of_ble_eq_true rfl), (Nat.le_of_ble_eq_true rfl)⟩) hP hO (thr_at hTh hS (fun q h => h)) hN rfl hl.1 (Nat.le_of_ble_eq_true rfl) dL_holds_865 ⟨(by show 1300 + 20 * j + 1 ≤ 2000; omega), (by show 7800 + 120 * j + 6 ≤ 12000; omega)⟩) hS (fun q h => h) (fun H locs hP hS => ?_)
        refine lv_icmp_ne (tgt := 937) hx hb dL_holds_868 (by decide) (fun c8 => absurd (congrArg nI (show (sm (isT (mN M) 0) (gm (mN M)) : Nat) = sm (isT (mN M) 0) (gm (mN M)) by omega)) c8) (fun _ => ?_)
        refine lv_iload hx hb dL_holds_871 (lv_at hl 6 rfl) ?_
        refine lv_aload_n hx hb dL_holds_873 rfl (lv_at hl 0 rfl) ?_
        refine lv_iconst (v := 2) hx hb dL_holds_874 (by decide) ?_
        refine lv_bipush (v := 11) hx hb dL_holds_875 (by decide) ?_
        refine lv_iconst (v := 0) hx hb dL_holds_877 (by decide) ?_
        refine lv_iconst (v := 0) hx hb dL_holds_878 (by decide) ?_
        refine cl_o1 (rSP (A := blk b (b + 170)) (As := [.ref b, .int 2, .int 11, .int 0, .int 0]) (rest := [.int (nI (sm (nwK (mN M)) (gm (mN M))))]) ⟨hx, hb, hml, hown, hts⟩ (c_call_2 l G b (yR X T) 11 0 0 (nI (sm (nwK (mN M)) (gm (mN M)))) (yR X T) hst (rd_ab11 (RX.yR T))) (va_cwS 5 hts gL_holds_L_call rfl rfl rfl (by decide +kernel) ⟨(Nat.le_of_ble_eq_true rfl), (Nat.le_of_ble_eq_true rfl)⟩) hP hO (thr_at hTh hS (fun q h => h)) hN rfl hl.1 (Nat.le_of_ble_eq_true rfl) dL_holds_879 ⟨(by show 1300 + 20 * j + 1 + 1 ≤ 2000; omega), (by show 7800 + 120 * j + 6 + 6 ≤ 12000; omega)⟩) hS (fun q h => h) (fun H locs hP hS => ?_)
        refine lv_icmp_ne (tgt := 937) hx hb dL_holds_882 (by decide) (fun c9 => absurd (congrArg nI (show (sm (nwK (mN M)) (gm (mN M)) : Nat) = sm (nwK (mN M)) (gm (mN M)) by omega)) c9) (fun _ => ?_)
        refine lv_iload hx hb dL_holds_885 (lv_at hl 9 rfl) ?_
        refine lv_aload_n hx hb dL_holds_887 rfl (lv_at hl 0 rfl) ?_
        refine lv_iconst (v := 2) hx hb dL_holds_888 (by decide) ?_
        refine lv_bipush (v := 9) hx hb dL_holds_889 (by decide) ?_
        refine lv_iconst (v := 0) hx hb dL_holds_891 (by decide) ?_
        refine lv_iconst (v := 0) hx hb dL_holds_892 (by decide) ?_
        refine cl_o1 (rSP (A := blk b (b + 170)) (As := [.ref b, .int 2, .int 9, .int 0, .int 0]) (rest := [.int (nI (sm (isC (mN M) (-1)) 80))]) ⟨hx, hb, hml, hown, hts⟩ (c_call_2 l G b (yR X T) 9 0 0 (nI (sm (isC (mN M) (-1)) 80)) (yR X T) hst (rd_ab9 (RX.yR T))) (va_cwS 5 hts gL_holds_L_call rfl rfl rfl (by decide +kernel) ⟨(Nat.le_of_ble_eq_true rfl), (Nat.le_of_ble_eq_true rfl)⟩) hP hO (thr_at hTh hS (fun q h => h)) hN rfl hl.1 (Nat.le_of_ble_eq_true rfl) dL_holds_893 ⟨(by show 1300 + 20 * j + 1 + 1 + 1 ≤ 2000; omega), (by show 7800 + 120 * j + 6 + 6 + 6 ≤ 12000; omega)⟩) hS (fun q h => h) (fun H locs hP hS => ?_)
        refine lv_icmp_ne (tgt := 937) hx hb dL_holds_896 (by decide) (fun c10 => absurd (congrArg nI (show (sm (isC (mN M) (-1)) 80 : Nat) = sm (isC (mN M) (-1)) 80 by omega)) c10) (fun _ => ?_)
        refine lv_iload hx hb dL_holds_899 (lv_at hl 10 rfl) ?_
        refine lv_aload_n hx hb dL_holds_901 rfl (lv_at hl 0 rfl) ?_
        refine lv_iconst (v := 2) hx hb dL_holds_902 (by decide) ?_
        refine lv_bipush (v := 8) hx hb dL_holds_903 (by decide) ?_
        refine lv_iconst (v := 0) hx hb dL_holds_905 (by decide) ?_
        refine lv_iconst (v := 0) hx hb dL_holds_906 (by decide) ?_
        refine cl_o1 (rSP (A := blk b (b + 170)) (As := [.ref b, .int 2, .int 8, .int 0, .int 0]) (rest := [.int (nI (f_X7_longest (mN M)))]) ⟨hx, hb, hml, hown, hts⟩ (c_call_2 l G b (yR X T) 8 0 0 (nI (f_X7_longest (mN M))) (yR X T) hst (rd_ab8 (RX.yR T))) (va_cwS 5 hts gL_holds_L_call rfl rfl rfl (by decide +kernel) ⟨(Nat.le_of_ble_eq_true rfl), (Nat.le_of_ble_eq_true rfl)⟩) hP hO (thr_at hTh hS (fun q h => h)) hN rfl hl.1 (Nat.le_of_ble_eq_true rfl) dL_holds_907 ⟨(by show 1300 + 20 * j + 1 + 1 + 1 + 1 ≤ 2000; omega), (by show 7800 + 120 * j + 6 + 6 + 6 + 6 ≤ 12000; omega)⟩) hS (fun q h => h) (fun H locs hP hS => ?_)
        refine lv_icmp_ne (tgt := 937) hx hb dL_holds_910 (by decide) (fun c11 => absurd (congrArg nI (show (f_X7_longest (mN M) : Nat) = f_X7_longest (mN M) by omega)) c11) (fun _ => ?_)
        refine lv_iload hx hb dL_holds_913 (lv_at hl 9 rfl) ?_
        refine lv_iload hx hb dL_holds_915 (lv_at hl 4 rfl) ?_
        refine iadd_n (a := sm (isC (mN M) (-1)) 80) (b := sm (lk (mN M)) (gm (mN M))) hx hb dL_holds_917 ?_
        refine lv_aload_n hx hb dL_holds_918 rfl (lv_at hl 0 rfl) ?_
        refine lv_iconst (v := 2) hx hb dL_holds_919 (by decide) ?_
        refine lv_bipush (v := 10) hx hb dL_holds_920 (by decide) ?_
        refine lv_iconst (v := 0) hx hb dL_holds_922 (by decide) ?_
        refine lv_iconst (v := 0) hx hb dL_holds_923 (by decide) ?_
        refine cl_o1 (rSP (A := blk b (b + 170)) (As := [.ref b, .int 2, .int 10, .int 0, .int 0]) (rest := [.int (nI ((sm (isC (mN M) (-1)) 80) + (sm (lk (mN M)) (gm (mN M)))))]) ⟨hx, hb, hml, hown, hts⟩ (c_call_2 l G b (yR X T) 10 0 0 (nI (sm (isC (mN M) 100) 80)) (yR X T) hst (rd_ab10 (RX.yR T))) (va_cwS 5 hts gL_holds_L_call rfl rfl rfl (by decide +kernel) ⟨(Nat.le_of_ble_eq_true rfl), (Nat.le_of_ble_eq_true rfl)⟩) hP hO (thr_at hTh hS (fun q h => h)) hN rfl hl.1 (Nat.le_of_ble_eq_true rfl) dL_holds_924 ⟨(by show 1300 + 20 * j + 1 + 1 + 1 + 1 + 1 ≤ 2000; omega), (by show 7800 + 120 * j + 6 + 6 + 6 + 6 + 6 ≤ 12000; omega)⟩) hS (fun q h => h) (fun H locs hP hS => ?_)
        refine iadd_n (a := (sm (isC (mN M) (-1)) 80) + (sm (lk (mN M)) (gm (mN M)))) (b := sm (isC (mN M) 100) 80) hx hb dL_holds_927 ?_
        refine lv_bipush (v := 80) hx hb dL_holds_928 (by decide) ?_
        refine lv_icmp_ne (tgt := 937) hx hb dL_holds_930 (by decide) (fun c12 => absurd (congrArg nI (show (((sm (isC (mN M) (-1)) 80) + (sm (lk (mN M)) (gm (mN M)))) + (sm (isC (mN M) 100) 80) : Nat) = 80 by omega)) c12) (fun _ => ?_)
        refine lv_iconst (v := 1) hx hb dL_holds_933 (by decide) ?_
        refine lv_goto (tgt := 938) hx hb dL_holds_934 (by decide) ?_
        exact W.widen (k := 2000) (n := 12000) (by show 1300 + 20 * j + 1 + 1 + 1 + 1 + 1 ≤ 2000; omega) (by show 7800 + 120 * j + 6 + 6 + 6 + 6 + 6 ≤ 12000; omega) (W.zret (ty := .boolean) hx hb hr rfl (fun t ht hW => ⟨rfl, by rw [ht]; exact ⟨T, hP⟩, hS.F ht⟩) hS.2.2 dL_holds_938)
      · have c5f : ¬ 9 ≤ j := fun z => c5 ((nI_leI (a := 9) (b := j) (by omega) (by omega)).mpr z)
        have hj : 2 ≤ j ∧ j ≤ 8 := by omega
        obtain ⟨T7, eT7⟩ := rd_fits0 (RX.yR T) hj
        obtain ⟨T8, eT8⟩ := rd_when (X := yR (yR X T) T7) hj
        have hwl := wy_le (mN M) j
        have hnl := nf_le (mN M) hj.1
        refine lv_iload hx hb dL_holds_601 (lv_at hl 8 rfl) ?_
        refine lv_if_eq (tgt := 848) hx hb dL_holds_603 (by decide) (fun c13 => absurd c13 (by decide)) (fun _ => ?_)
        refine lv_aload_n hx hb dL_holds_606 rfl (lv_at hl 0 rfl) ?_
        refine lv_bipush (v := 15) hx hb dL_holds_607 (by decide) ?_
        refine lv_iload hx hb dL_holds_609 (lv_at hl 11 rfl) ?_
        refine lv_iconst (v := 0) hx hb dL_holds_611 (by decide) ?_
        refine lv_iconst (v := 0) hx hb dL_holds_612 (by decide) ?_
        refine cl_o1 (rSP (A := blk b (b + 170)) (As := [.ref b, .int 15, .int (nI j), .int 0, .int 0]) (rest := []) ⟨hx, hb, hml, hown, hts⟩ (c_call_15 l G b (yR X T) (nI j) 0 0 (pl (mN M) j) (yR X T) hst (rd_place (RX.yR T) hj)) (va_cwS 5 hts gL_holds_L_call rfl rfl rfl (by decide +kernel) ⟨(Nat.le_of_ble_eq_true rfl), (Nat.le_of_ble_eq_true rfl)⟩) hP hO (thr_at hTh hS (fun q h => h)) hN rfl hl.1 (Nat.le_of_ble_eq_true rfl) dL_holds_613 ⟨(by show 1300 + 20 * j + 1 ≤ 2000; omega), (by show 7800 + 120 * j + 6 ≤ 12000; omega)⟩) hS (fun q h => h) (fun H locs hP hS => ?_)
        refine lv_istore (lv' := [(13, .int (pl (mN M) j)), (0, .ref b), (1, .int (nI (gm (mN M)))), (2, .int (nI (f_X7_gaps (mN M)))), (3, .int (nI (cO (mN M)))), (4, .int (nI (sm (lk (mN M)) (gm (mN M))))), (5, .int (nI (sm (isT (mN M) 0) (gm (mN M))))), (6, .int (nI (sm (nwK (mN M)) (gm (mN M))))), (7, .int (nI (cE (mN M)))), (8, .int 1), (9, .int (nI (sm (isC (mN M) (-1)) 80))), (10, .int (nI (f_X7_longest (mN M)))), (12, .int (nI j))]) hx hb dL_holds_616 hl (by decide) rfl (fun ls hl => ?_)
        refine lv_aload_n hx hb dL_holds_618 rfl (lv_at hl 1 rfl) ?_
        refine lv_bipush (v := 14) hx hb dL_holds_619 (by decide) ?_
        refine lv_iload hx hb dL_holds_621 (lv_at hl 12 rfl) ?_
        refine lv_iconst (v := 0) hx hb dL_holds_623 (by decide) ?_
        refine lv_iconst (v := 0) hx hb dL_holds_624 (by decide) ?_
        refine cl_o1 (rSP (A := blk b (b + 170)) (As := [.ref b, .int 14, .int (nI j), .int 0, .int 0]) (rest := []) ⟨hx, hb, hml, hown, hts⟩ (c_call_14 l G b (yR X T) (nI j) 0 0 (nI (wy (mN M) j)) (yR X T) hst (rd_why (RX.yR T) hj)) (va_cwS 5 hts gL_holds_L_call rfl rfl rfl (by decide +kernel) ⟨(Nat.le_of_ble_eq_true rfl), (Nat.le_of_ble_eq_true rfl)⟩) hP hO (thr_at hTh hS (fun q h => h)) hN rfl hl.1 (Nat.le_of_ble_eq_true rfl) dL_holds_625 ⟨(by show 1300 + 20 * j + 1 + 1 ≤ 2000; omega), (by show 7800 + 120 * j + 6 + 6 ≤ 12000; omega)⟩) hS (fun q h => h) (fun H locs hP hS => ?_)
        refine lv_istore (lv' := [(14, .int (nI (wy (mN M) j))), (13, .int (pl (mN M) j)), (0, .ref b), (1, .int (nI (gm (mN M)))), (2, .int (nI (f_X7_gaps (mN M)))), (3, .int (nI (cO (mN M)))), (4, .int (nI (sm (lk (mN M)) (gm (mN M))))), (5, .int (nI (sm (isT (mN M) 0) (gm (mN M))))), (6, .int (nI (sm (nwK (mN M)) (gm (mN M))))), (7, .int (nI (cE (mN M)))), (8, .int 1), (9, .int (nI (sm (isC (mN M) (-1)) 80))), (10, .int (nI (f_X7_longest (mN M)))), (12, .int (nI j))]) hx hb dL_holds_628 hl (by decide) rfl (fun ls hl => ?_)
        refine lv_aload_n hx hb dL_holds_630 rfl (lv_at hl 2 rfl) ?_
        refine lv_bipush (v := 16) hx hb dL_holds_631 (by decide) ?_
        refine lv_iload hx hb dL_holds_633 (lv_at hl 13 rfl) ?_
        refine lv_iconst (v := 0) hx hb dL_holds_635 (by decide) ?_
        refine lv_iconst (v := 0) hx hb dL_holds_636 (by decide) ?_
        refine cl_o1 (rSP (A := blk b (b + 170)) (As := [.ref b, .int 16, .int (nI j), .int 0, .int 0]) (rest := []) ⟨hx, hb, hml, hown, hts⟩ (c_call_16 l G b (yR X T) (nI j) 0 0 (nI (nf (mN M) j)) (yR (yR X T) T7) hst eT7) (va_cwS 5 hts gL_holds_L_call rfl rfl rfl (by decide +kernel) ⟨(Nat.le_of_ble_eq_true rfl), (Nat.le_of_ble_eq_true rfl)⟩) hP hO (thr_at hTh hS (fun q h => h)) hN rfl hl.1 (Nat.le_of_ble_eq_true rfl) dL_holds_637 ⟨(by show 1300 + 20 * j + 1 + 1 + 1 ≤ 2000; omega), (by show 7800 + 120 * j + 6 + 6 + 6 ≤ 12000; omega)⟩) hS (fun q h => h) (fun H locs hP hS => ?_)
        refine lv_istore (lv' := [(15, .int (nI (nf (mN M) j))), (14, .int (nI (wy (mN M) j))), (13, .int (pl (mN M) j)), (0, .ref b), (1, .int (nI (gm (mN M)))), (2, .int (nI (f_X7_gaps (mN M)))), (3, .int (nI (cO (mN M)))), (4, .int (nI (sm (lk (mN M)) (gm (mN M))))), (5, .int (nI (sm (isT (mN M) 0) (gm (mN M))))), (6, .int (nI (sm (nwK (mN M)) (gm (mN M))))), (7, .int (nI (cE (mN M)))), (8, .int 1), (9, .int (nI (sm (isC (mN M) (-1)) 80))), (10, .int (nI (f_X7_longest (mN M)))), (12, .int (nI j))]) hx hb dL_holds_640 hl (by decide) rfl (fun ls hl => ?_)
        refine lv_iload hx hb dL_holds_642 (lv_at hl 1 rfl) ?_
        refine lv_iload hx hb dL_holds_644 (lv_at hl 13 rfl) ?_
        refine lv_iload hx hb dL_holds_646 (lv_at hl 14 rfl) ?_
        refine lv_icmp_ge (tgt := 655) hx hb dL_holds_648 (by decide) (fun c14 => ?_) (fun c14 => ?_)
        · have c14f : j ≤ f_X7_longest (mN M) := (nI_leI (a := j) (b := f_X7_longest (mN M)) (by omega) (by omega)).mp c14
          refine lv_iload hx hb dL_holds_655 (lv_at hl 13 rfl) ?_
          refine lv_iload hx hb dL_holds_657 (lv_at hl 14 rfl) ?_
          refine lv_iload_n hx hb dL_holds_659 rfl (lv_at hl 6 rfl) ?_
          refine iadd_n (a := j) (b := cO (mN M)) hx hb dL_holds_660 ?_
          refine lv_icmp_ge (tgt := 668) hx hb dL_holds_661 (by decide) (fun c15 => ?_) (fun c15 => ?_)
          · have c15f : j + (cO (mN M)) ≤ f_X7_longest (mN M) := (nI_leI (a := j + (cO (mN M))) (b := f_X7_longest (mN M)) (by omega) (by omega)).mp c15
            have hwy : wy (mN M) j = 0 := by rw [wy, if_neg (by omega), if_neg (by omega)]
            obtain ⟨x, ex, hx8, hfr⟩ := place_at RX.nw.2 hj hwy
            rw [show pl (mN M) j = nI x from ex] at hl
            have hnf0 : 0 < nf (mN M) j := (nf_0 hj).mpr hwy
            refine lv_iconst (v := 0) hx hb dL_holds_668 (by decide) ?_
            refine lv_icmp_ne (tgt := 788) hx hb dL_holds_669 (by decide) (fun c16 => absurd (congrArg nI (show (wy (mN M) j : Nat) = 0 by omega)) c16) (fun _ => ?_)
            refine lv_iload hx hb dL_holds_672 (lv_at hl 2 rfl) ?_
            refine lv_iconst (v := -1) hx hb dL_holds_674 (by decide) ?_
            refine lv_icmp_ne (tgt := 682) hx hb dL_holds_675 (by decide) (fun _ => ?_) (fun c17 => absurd c17 (nI_m1 (a := x) (by omega)))
            refine lv_iconst (v := 0) hx hb dL_holds_682 (by decide) ?_
            refine lv_iload hx hb dL_holds_683 (lv_at hl 1 rfl) ?_
            refine lv_if_le (tgt := 692) hx hb dL_holds_685 (by decide) (fun _ => ?_) (fun c18 => absurd (nI_le (a := wy (mN M) j) (b := 0) (by omega) (by omega)) c18)
            refine lv_iconst (v := 0) hx hb dL_holds_692 (by decide) ?_
            refine lv_icmp_ne (tgt := 788) hx hb dL_holds_693 (by decide) (fun c19 => absurd (by decide) c19) (fun _ => ?_)
            refine lv_iload hx hb dL_holds_696 (lv_at hl 0 rfl) ?_
            refine lv_aload_n hx hb dL_holds_698 rfl (lv_at hl 3 rfl) ?_
            refine lv_bipush (v := 16) hx hb dL_holds_699 (by decide) ?_
            refine lv_iload hx hb dL_holds_701 (lv_at hl 14 rfl) ?_
            refine lv_iconst (v := 1) hx hb dL_holds_703 (by decide) ?_
            refine lv_iconst (v := 0) hx hb dL_holds_704 (by decide) ?_
            refine cl_o1 (rSP (A := blk b (b + 170)) (As := [.ref b, .int 16, .int (nI j), .int 1, .int 0]) (rest := [.int (nI (nf (mN M) j))]) ⟨hx, hb, hml, hown, hts⟩ (c_call_16 l G b (yR (yR X T) T7) (nI j) 1 0 (nI (nf (mN M) j)) (yR (yR X T) T7) hst (rd_fits1 ((RX.yR T).yR T7) hj)) (va_cwS 5 hts gL_holds_L_call rfl rfl rfl (by decide +kernel) ⟨(Nat.le_of_ble_eq_true rfl), (Nat.le_of_ble_eq_true rfl)⟩) hP hO (thr_at hTh hS (fun q h => h)) hN rfl hl.1 (Nat.le_of_ble_eq_true rfl) dL_holds_705 ⟨(by show 1300 + 20 * j + 1 + 1 + 1 + 1 ≤ 2000; omega), (by show 7800 + 120 * j + 6 + 6 + 6 + 6 ≤ 12000; omega)⟩) hS (fun q h => h) (fun H locs hP hS => ?_)
            refine lv_icmp_ne (tgt := 788) hx hb dL_holds_708 (by decide) (fun c20 => absurd (congrArg nI (show (nf (mN M) j : Nat) = nf (mN M) j by omega)) c20) (fun _ => ?_)
            refine lv_iload hx hb dL_holds_711 (lv_at hl 0 rfl) ?_
            refine lv_if_le (tgt := 720) hx hb dL_holds_713 (by decide) (fun c21 => absurd c21 (nI_ge (a := 0) (b := nf (mN M) j) (by omega) (by omega))) (fun _ => ?_)
            refine lv_iconst (v := 1) hx hb dL_holds_716 (by decide) ?_
            refine lv_goto (tgt := 721) hx hb dL_holds_717 (by decide) ?_
            refine lv_iload hx hb dL_holds_721 (lv_at hl 1 rfl) ?_
            refine lv_if_ne (tgt := 730) hx hb dL_holds_723 (by decide) (fun c22 => absurd (congrArg nI (show (wy (mN M) j : Nat) = 0 by omega)) c22) (fun _ => ?_)
            refine lv_iconst (v := 1) hx hb dL_holds_726 (by decide) ?_
            refine lv_goto (tgt := 731) hx hb dL_holds_727 (by decide) ?_
            refine lv_icmp_ne (tgt := 788) hx hb dL_holds_731 (by decide) (fun c23 => absurd (by decide) c23) (fun _ => ?_)
            refine lv_aload_n hx hb dL_holds_734 rfl (lv_at hl 3 rfl) ?_
            refine lv_bipush (v := 17) hx hb dL_holds_735 (by decide) ?_
            refine lv_iload hx hb dL_holds_737 (lv_at hl 14 rfl) ?_
            refine lv_iconst (v := 0) hx hb dL_holds_739 (by decide) ?_
            refine lv_iconst (v := 0) hx hb dL_holds_740 (by decide) ?_
            refine cl_o1 (rSP (A := blk b (b + 170)) (As := [.ref b, .int 17, .int (nI j), .int 0, .int 0]) (rest := []) ⟨hx, hb, hml, hown, hts⟩ (c_call_17 l G b (yR (yR X T) T7) (nI j) 0 0 (gw (xN X) j) (yR (yR (yR X T) T7) T8) hst eT8) (va_cwS 5 hts gL_holds_L_call rfl rfl rfl (by decide +kernel) ⟨(Nat.le_of_ble_eq_true rfl), (Nat.le_of_ble_eq_true rfl)⟩) hP hO (thr_at hTh hS (fun q h => h)) hN rfl hl.1 (Nat.le_of_ble_eq_true rfl) dL_holds_741 ⟨(by show 1300 + 20 * j + 1 + 1 + 1 + 1 + 1 ≤ 2000; omega), (by show 7800 + 120 * j + 6 + 6 + 6 + 6 + 6 ≤ 12000; omega)⟩) hS (fun q h => h) (fun H locs hP hS => ?_)
            refine lv_if_ne (tgt := 751) hx hb dL_holds_744 (by decide) (fun c24 => absurd ((gw_0 RX hj).mpr hwy) c24) (fun _ => ?_)
            refine lv_iconst (v := 1) hx hb dL_holds_747 (by decide) ?_
            refine lv_goto (tgt := 752) hx hb dL_holds_748 (by decide) ?_
            refine lv_iload hx hb dL_holds_752 (lv_at hl 1 rfl) ?_
            refine lv_if_ne (tgt := 761) hx hb dL_holds_754 (by decide) (fun c25 => absurd (congrArg nI (show (wy (mN M) j : Nat) = 0 by omega)) c25) (fun _ => ?_)
            refine lv_iconst (v := 1) hx hb dL_holds_757 (by decide) ?_
            refine lv_goto (tgt := 762) hx hb dL_holds_758 (by decide) ?_
            refine lv_icmp_ne (tgt := 788) hx hb dL_holds_762 (by decide) (fun c26 => absurd (by decide) c26) (fun _ => ?_)
            refine lv_iload hx hb dL_holds_765 (lv_at hl 1 rfl) ?_
            refine lv_if_gt (tgt := 784) hx hb dL_holds_767 (by decide) (fun c27 => absurd c27 (nI_nlt (a := 0) (b := wy (mN M) j) (by omega) (by omega))) (fun _ => ?_)
            refine lv_aload_n hx hb dL_holds_770 rfl (lv_at hl 3 rfl) ?_
            refine lv_bipush (v := 18) hx hb dL_holds_771 (by decide) ?_
            refine lv_iload hx hb dL_holds_773 (lv_at hl 14 rfl) ?_
            refine lv_iconst (v := 0) hx hb dL_holds_775 (by decide) ?_
            refine lv_iconst (v := 0) hx hb dL_holds_776 (by decide) ?_
            refine cl_o1 (rSP (A := blk b (b + 170)) (As := [.ref b, .int 18, .int (nI j), .int 0, .int 0]) (rest := []) ⟨hx, hb, hml, hown, hts⟩ (c_call_18 l G b (yR (yR (yR X T) T7) T8) (nI j) 0 0 (-1) (yR (yR (yR X T) T7) T8) hst (mov_0 (((RX.yR T).yR T7).yR T8) hj hwy)) (va_cwS 5 hts gL_holds_L_call rfl rfl rfl (by decide +kernel) ⟨(Nat.le_of_ble_eq_true rfl), (Nat.le_of_ble_eq_true rfl)⟩) hP hO (thr_at hTh hS (fun q h => h)) hN rfl hl.1 (Nat.le_of_ble_eq_true rfl) dL_holds_777 ⟨(by show 1300 + 20 * j + 1 + 1 + 1 + 1 + 1 + 1 ≤ 2000; omega), (by show 7800 + 120 * j + 6 + 6 + 6 + 6 + 6 + 6 ≤ 12000; omega)⟩) hS (fun q h => h) (fun H locs hP hS => ?_)
            refine lv_iconst (v := -1) hx hb dL_holds_780 (by decide) ?_
            refine lv_icmp_ne (tgt := 788) hx hb dL_holds_781 (by decide) (fun c28 => absurd (by decide) c28) (fun _ => ?_)
            refine lv_iconst (v := 1) hx hb dL_holds_784 (by decide) ?_
            refine lv_goto (tgt := 789) hx hb dL_holds_785 (by decide) ?_
            refine lv_istore (lv' := [(8, .int 1), (15, .int (nI (nf (mN M) j))), (14, .int (nI (wy (mN M) j))), (13, .int (nI x)), (0, .ref b), (1, .int (nI (gm (mN M)))), (2, .int (nI (f_X7_gaps (mN M)))), (3, .int (nI (cO (mN M)))), (4, .int (nI (sm (lk (mN M)) (gm (mN M))))), (5, .int (nI (sm (isT (mN M) 0) (gm (mN M))))), (6, .int (nI (sm (nwK (mN M)) (gm (mN M))))), (7, .int (nI (cE (mN M)))), (9, .int (nI (sm (isC (mN M) (-1)) 80))), (10, .int (nI (f_X7_longest (mN M)))), (12, .int (nI j))]) hx hb dL_holds_789 hl (by decide) rfl (fun ls hl => ?_)
            refine lv_iload hx hb dL_holds_791 (lv_at hl 3 rfl) ?_
            refine lv_istore (lv' := [(16, .int (nI x)), (8, .int 1), (15, .int (nI (nf (mN M) j))), (14, .int (nI (wy (mN M) j))), (13, .int (nI x)), (0, .ref b), (1, .int (nI (gm (mN M)))), (2, .int (nI (f_X7_gaps (mN M)))), (3, .int (nI (cO (mN M)))), (4, .int (nI (sm (lk (mN M)) (gm (mN M))))), (5, .int (nI (sm (isT (mN M) 0) (gm (mN M))))), (6, .int (nI (sm (nwK (mN M)) (gm (mN M))))), (7, .int (nI (cE (mN M)))), (9, .int (nI (sm (isC (mN M) (-1)) 80))), (10, .int (nI (f_X7_longest (mN M)))), (12, .int (nI j))]) hx hb dL_holds_793 hl (by decide) rfl (fun ls hl => ?_)
            refine W.widen (k := 1300 + 20 * j + 8 + (x - x)) (n := 7800 + 120 * j + 48 + 6 * (x - x)) (by omega) (by omega) ?_
            exact cut795 (80 + 1) x x T8 (by omega) hj hx8 hfr (by omega) (by omega) _ _ _ hP hS (lv_sub hl [5, 6, 7, 8, 9, 10, 11, 12, 1, 13, 14, 15, 4, 0] rfl)
          · have c15f : ¬ (j + (cO (mN M))) ≤ (f_X7_longest (mN M)) := fun z => c15 ((nI_leI (a := j + (cO (mN M))) (b := f_X7_longest (mN M)) (by omega) (by omega)).mpr z)
            have hwy : wy (mN M) j = 2 := by rw [wy, if_neg (by omega), if_pos (by omega)]
            have hwn : ¬ wy (mN M) j = 0 := by omega
            rw [show pl (mN M) j = -1 from (place_no RX.nw.2 hj).mpr hwn] at hl
            have hnf0 : ¬ 0 < nf (mN M) j := fun z => hwn ((nf_0 hj).mp z)
            refine lv_iconst (v := 2) hx hb dL_holds_664 (by decide) ?_
            refine lv_goto (tgt := 669) hx hb dL_holds_665 (by decide) ?_
            refine lv_icmp_ne (tgt := 788) hx hb dL_holds_669 (by decide) (fun c29 => absurd (congrArg nI (show (wy (mN M) j : Nat) = 2 by omega)) c29) (fun _ => ?_)
            refine lv_iload hx hb dL_holds_672 (lv_at hl 2 rfl) ?_
            refine lv_iconst (v := -1) hx hb dL_holds_674 (by decide) ?_
            refine lv_icmp_ne (tgt := 682) hx hb dL_holds_675 (by decide) (fun c30 => absurd (by decide) c30) (fun _ => ?_)
            refine lv_iconst (v := 1) hx hb dL_holds_678 (by decide) ?_
            refine lv_goto (tgt := 683) hx hb dL_holds_679 (by decide) ?_
            refine lv_iload hx hb dL_holds_683 (lv_at hl 1 rfl) ?_
            refine lv_if_le (tgt := 692) hx hb dL_holds_685 (by decide) (fun c31 => absurd c31 (nI_ge (a := 0) (b := wy (mN M) j) (by omega) (by omega))) (fun _ => ?_)
            refine lv_iconst (v := 1) hx hb dL_holds_688 (by decide) ?_
            refine lv_goto (tgt := 693) hx hb dL_holds_689 (by decide) ?_
            refine lv_icmp_ne (tgt := 788) hx hb dL_holds_693 (by decide) (fun c32 => absurd (by decide) c32) (fun _ => ?_)
            refine lv_iload hx hb dL_holds_696 (lv_at hl 0 rfl) ?_
            refine lv_aload_n hx hb dL_holds_698 rfl (lv_at hl 3 rfl) ?_
            refine lv_bipush (v := 16) hx hb dL_holds_699 (by decide) ?_
            refine lv_iload hx hb dL_holds_701 (lv_at hl 14 rfl) ?_
            refine lv_iconst (v := 1) hx hb dL_holds_703 (by decide) ?_
            refine lv_iconst (v := 0) hx hb dL_holds_704 (by decide) ?_
            refine cl_o1 (rSP (A := blk b (b + 170)) (As := [.ref b, .int 16, .int (nI j), .int 1, .int 0]) (rest := [.int (nI (nf (mN M) j))]) ⟨hx, hb, hml, hown, hts⟩ (c_call_16 l G b (yR (yR X T) T7) (nI j) 1 0 (nI (nf (mN M) j)) (yR (yR X T) T7) hst (rd_fits1 ((RX.yR T).yR T7) hj)) (va_cwS 5 hts gL_holds_L_call rfl rfl rfl (by decide +kernel) ⟨(Nat.le_of_ble_eq_true rfl), (Nat.le_of_ble_eq_true rfl)⟩) hP hO (thr_at hTh hS (fun q h => h)) hN rfl hl.1 (Nat.le_of_ble_eq_true rfl) dL_holds_705 ⟨(by show 1300 + 20 * j + 1 + 1 + 1 + 1 ≤ 2000; omega), (by show 7800 + 120 * j + 6 + 6 + 6 + 6 ≤ 12000; omega)⟩) hS (fun q h => h) (fun H locs hP hS => ?_)
            refine lv_icmp_ne (tgt := 788) hx hb dL_holds_708 (by decide) (fun c33 => absurd (congrArg nI (show (nf (mN M) j : Nat) = nf (mN M) j by omega)) c33) (fun _ => ?_)
            refine lv_iload hx hb dL_holds_711 (lv_at hl 0 rfl) ?_
            refine lv_if_le (tgt := 720) hx hb dL_holds_713 (by decide) (fun _ => ?_) (fun c34 => absurd (nI_le (a := nf (mN M) j) (b := 0) (by omega) (by omega)) c34)
            refine lv_iconst (v := 0) hx hb dL_holds_720 (by decide) ?_
            refine lv_iload hx hb dL_holds_721 (lv_at hl 1 rfl) ?_
            refine lv_if_ne (tgt := 730) hx hb dL_holds_723 (by decide) (fun _ => ?_) (fun c35 => absurd c35 (fun z => absurd (nI_inj (a := wy (mN M) j) (b := 0) (by omega) (by omega) z) (by omega)))
            refine lv_iconst (v := 0) hx hb dL_holds_730 (by decide) ?_
            refine lv_icmp_ne (tgt := 788) hx hb dL_holds_731 (by decide) (fun c36 => absurd (by decide) c36) (fun _ => ?_)
            refine lv_aload_n hx hb dL_holds_734 rfl (lv_at hl 3 rfl) ?_
            refine lv_bipush (v := 17) hx hb dL_holds_735 (by decide) ?_
            refine lv_iload hx hb dL_holds_737 (lv_at hl 14 rfl) ?_
            refine lv_iconst (v := 0) hx hb dL_holds_739 (by decide) ?_
            refine lv_iconst (v := 0) hx hb dL_holds_740 (by decide) ?_
            refine cl_o1 (rSP (A := blk b (b + 170)) (As := [.ref b, .int 17, .int (nI j), .int 0, .int 0]) (rest := []) ⟨hx, hb, hml, hown, hts⟩ (c_call_17 l G b (yR (yR X T) T7) (nI j) 0 0 (gw (xN X) j) (yR (yR (yR X T) T7) T8) hst eT8) (va_cwS 5 hts gL_holds_L_call rfl rfl rfl (by decide +kernel) ⟨(Nat.le_of_ble_eq_true rfl), (Nat.le_of_ble_eq_true rfl)⟩) hP hO (thr_at hTh hS (fun q h => h)) hN rfl hl.1 (Nat.le_of_ble_eq_true rfl) dL_holds_741 ⟨(by show 1300 + 20 * j + 1 + 1 + 1 + 1 + 1 ≤ 2000; omega), (by show 7800 + 120 * j + 6 + 6 + 6 + 6 + 6 ≤ 12000; omega)⟩) hS (fun q h => h) (fun H locs hP hS => ?_)
            refine lv_if_ne (tgt := 751) hx hb dL_holds_744 (by decide) (fun _ => ?_) (fun c37 => absurd c37 (fun z => hwn ((gw_0 RX hj).mp z)))
            refine lv_iconst (v := 0) hx hb dL_holds_751 (by decide) ?_
            refine lv_iload hx hb dL_holds_752 (lv_at hl 1 rfl) ?_
            refine lv_if_ne (tgt := 761) hx hb dL_holds_754 (by decide) (fun _ => ?_) (fun c38 => absurd c38 (fun z => absurd (nI_inj (a := wy (mN M) j) (b := 0) (by omega) (by omega) z) (by omega)))
            refine lv_iconst (v := 0) hx hb dL_holds_761 (by decide) ?_
            refine lv_icmp_ne (tgt := 788) hx hb dL_holds_762 (by decide) (fun c39 => absurd (by decide) c39) (fun _ => ?_)
            refine lv_iload hx hb dL_holds_765 (lv_at hl 1 rfl) ?_
            refine lv_if_gt (tgt := 784) hx hb dL_holds_767 (by decide) (fun _ => ?_) (fun c40 => absurd (nI_lt (a := 0) (b := wy (mN M) j) (by omega) (by omega)) c40)
            refine lv_iconst (v := 1) hx hb dL_holds_784 (by decide) ?_
            refine lv_goto (tgt := 789) hx hb dL_holds_785 (by decide) ?_
            refine lv_istore (lv' := [(8, .int 1), (15, .int (nI (nf (mN M) j))), (14, .int (nI (wy (mN M) j))), (13, .int (-1)), (0, .ref b), (1, .int (nI (gm (mN M)))), (2, .int (nI (f_X7_gaps (mN M)))), (3, .int (nI (cO (mN M)))), (4, .int (nI (sm (lk (mN M)) (gm (mN M))))), (5, .int (nI (sm (isT (mN M) 0) (gm (mN M))))), (6, .int (nI (sm (nwK (mN M)) (gm (mN M))))), (7, .int (nI (cE (mN M)))), (9, .int (nI (sm (isC (mN M) (-1)) 80))), (10, .int (nI (f_X7_longest (mN M)))), (12, .int (nI j))]) hx hb dL_holds_789 hl (by decide) rfl (fun ls hl => ?_)
            refine lv_iload hx hb dL_holds_791 (lv_at hl 3 rfl) ?_
            refine lv_istore (lv' := [(16, .int (-1)), (8, .int 1), (15, .int (nI (nf (mN M) j))), (14, .int (nI (wy (mN M) j))), (13, .int (-1)), (0, .ref b), (1, .int (nI (gm (mN M)))), (2, .int (nI (f_X7_gaps (mN M)))), (3, .int (nI (cO (mN M)))), (4, .int (nI (sm (lk (mN M)) (gm (mN M))))), (5, .int (nI (sm (isT (mN M) 0) (gm (mN M))))), (6, .int (nI (sm (nwK (mN M)) (gm (mN M))))), (7, .int (nI (cE (mN M)))), (9, .int (nI (sm (isC (mN M) (-1)) 80))), (10, .int (nI (f_X7_longest (mN M)))), (12, .int (nI j))]) hx hb dL_holds_793 hl (by decide) rfl (fun ls hl => ?_)
            refine lv_iload hx hb dL_holds_795 (lv_at hl 0 rfl) ?_
            refine lv_iload hx hb dL_holds_797 (lv_at hl 4 rfl) ?_
            refine lv_iload hx hb dL_holds_799 (lv_at hl 15 rfl) ?_
            refine lv_iadd hx hb dL_holds_801 ?_
            refine lv_icmp_ge (tgt := 842) hx hb dL_holds_802 (by decide) (fun c41 => absurd c41 (m1_add (by omega) (by omega))) (fun _ => ?_)
            refine lv_iload hx hb dL_holds_805 (lv_at hl 1 rfl) ?_
            refine lv_if_eq (tgt := 842) hx hb dL_holds_807 (by decide) (fun c42 => absurd c42 (by decide)) (fun _ => ?_)
            refine lv_iload hx hb dL_holds_810 (lv_at hl 4 rfl) ?_
            refine lv_iconst (v := -1) hx hb dL_holds_812 (by decide) ?_
            refine lv_icmp_eq (tgt := 842) hx hb dL_holds_813 (by decide) (fun _ => ?_) (fun c43 => absurd (by decide) c43)
            refine lv_iinc (v := nI (j + 1)) (lv' := [(12, .int (nI (j + 1))), (16, .int (-1)), (8, .int 1), (15, .int (nI (nf (mN M) j))), (14, .int (nI (wy (mN M) j))), (13, .int (-1)), (0, .ref b), (1, .int (nI (gm (mN M)))), (2, .int (nI (f_X7_gaps (mN M)))), (3, .int (nI (cO (mN M)))), (4, .int (nI (sm (lk (mN M)) (gm (mN M))))), (5, .int (nI (sm (isT (mN M) 0) (gm (mN M))))), (6, .int (nI (sm (nwK (mN M)) (gm (mN M))))), (7, .int (nI (cE (mN M)))), (9, .int (nI (sm (isC (mN M) (-1)) 80))), (10, .int (nI (f_X7_longest (mN M))))]) hx hb dL_holds_842 hl (k := 15) rfl (nI_1 _) (by decide) rfl (fun ls hl => ?_)
            refine lv_goto (tgt := 594) hx hb dL_holds_845 (by decide) ?_
            refine W.widen (k := 1300 + 20 * (j + 1)) (n := 7800 + 120 * (j + 1)) (by omega) (by omega) ?_
            exact ih594 (j + 1) T8 (by omega) (by omega) (by omega) _ _ _ hP hS (lv_sub hl [6, 7, 8, 9, 10, 11, 12, 13, 2, 14, 15, 0] rfl)
        · have c14f : ¬ j ≤ (f_X7_longest (mN M)) := fun z => c14 ((nI_leI (a := j) (b := f_X7_longest (mN M)) (by omega) (by omega)).mpr z)
          have hwy : wy (mN M) j = 1 := by rw [wy, if_pos (by omega)]
          have hwn : ¬ wy (mN M) j = 0 := by omega
          rw [show pl (mN M) j = -1 from (place_no RX.nw.2 hj).mpr hwn] at hl
          have hnf0 : ¬ 0 < nf (mN M) j := fun z => hwn ((nf_0 hj).mp z)
          refine lv_iconst (v := 1) hx hb dL_holds_651 (by decide) ?_
          refine lv_goto (tgt := 669) hx hb dL_holds_652 (by decide) ?_
          refine lv_icmp_ne (tgt := 788) hx hb dL_holds_669 (by decide) (fun c44 => absurd (congrArg nI (show (wy (mN M) j : Nat) = 1 by omega)) c44) (fun _ => ?_)
          refine lv_iload hx hb dL_holds_672 (lv_at hl 2 rfl) ?_
          refine lv_iconst (v := -1) hx hb dL_holds_674 (by decide) ?_
          refine lv_icmp_ne (tgt := 682) hx hb dL_holds_675 (by decide) (fun c45 => absurd (by decide) c45) (fun _ => ?_)
          refine lv_iconst (v := 1) hx hb dL_holds_678 (by decide) ?_
          refine lv_goto (tgt := 683) hx hb dL_holds_679 (by decide) ?_
          refine lv_iload hx hb dL_holds_683 (lv_at hl 1 rfl) ?_
          refine lv_if_le (tgt := 692) hx hb dL_holds_685 (by decide) (fun c46 => absurd c46 (nI_ge (a := 0) (b := wy (mN M) j) (by omega) (by omega))) (fun _ => ?_)
          refine lv_iconst (v := 1) hx hb dL_holds_688 (by decide) ?_
          refine lv_goto (tgt := 693) hx hb dL_holds_689 (by decide) ?_
          refine lv_icmp_ne (tgt := 788) hx hb dL_holds_693 (by decide) (fun c47 => absurd (by decide) c47) (fun _ => ?_)
          refine lv_iload hx hb dL_holds_696 (lv_at hl 0 rfl) ?_
          refine lv_aload_n hx hb dL_holds_698 rfl (lv_at hl 3 rfl) ?_
          refine lv_bipush (v := 16) hx hb dL_holds_699 (by decide) ?_
          refine lv_iload hx hb dL_holds_701 (lv_at hl 14 rfl) ?_
          refine lv_iconst (v := 1) hx hb dL_holds_703 (by decide) ?_
          refine lv_iconst (v := 0) hx hb dL_holds_704 (by decide) ?_
          refine cl_o1 (rSP (A := blk b (b + 170)) (As := [.ref b, .int 16, .int (nI j), .int 1, .int 0]) (rest := [.int (nI (nf (mN M) j))]) ⟨hx, hb, hml, hown, hts⟩ (c_call_16 l G b (yR (yR X T) T7) (nI j) 1 0 (nI (nf (mN M) j)) (yR (yR X T) T7) hst (rd_fits1 ((RX.yR T).yR T7) hj)) (va_cwS 5 hts gL_holds_L_call rfl rfl rfl (by decide +kernel) ⟨(Nat.le_of_ble_eq_true rfl), (Nat.le_of_ble_eq_true rfl)⟩) hP hO (thr_at hTh hS (fun q h => h)) hN rfl hl.1 (Nat.le_of_ble_eq_true rfl) dL_holds_705 ⟨(by show 1300 + 20 * j + 1 + 1 + 1 + 1 ≤ 2000; omega), (by show 7800 + 120 * j + 6 + 6 + 6 + 6 ≤ 12000; omega)⟩) hS (fun q h => h) (fun H locs hP hS => ?_)
          refine lv_icmp_ne (tgt := 788) hx hb dL_holds_708 (by decide) (fun c48 => absurd (congrArg nI (show (nf (mN M) j : Nat) = nf (mN M) j by omega)) c48) (fun _ => ?_)
          refine lv_iload hx hb dL_holds_711 (lv_at hl 0 rfl) ?_
          refine lv_if_le (tgt := 720) hx hb dL_holds_713 (by decide) (fun _ => ?_) (fun c49 => absurd (nI_le (a := nf (mN M) j) (b := 0) (by omega) (by omega)) c49)
          refine lv_iconst (v := 0) hx hb dL_holds_720 (by decide) ?_
          refine lv_iload hx hb dL_holds_721 (lv_at hl 1 rfl) ?_
          refine lv_if_ne (tgt := 730) hx hb dL_holds_723 (by decide) (fun _ => ?_) (fun c50 => absurd c50 (fun z => absurd (nI_inj (a := wy (mN M) j) (b := 0) (by omega) (by omega) z) (by omega)))
          refine lv_iconst (v := 0) hx hb dL_holds_730 (by decide) ?_
          refine lv_icmp_ne (tgt := 788) hx hb dL_holds_731 (by decide) (fun c51 => absurd (by decide) c51) (fun _ => ?_)
          refine lv_aload_n hx hb dL_holds_734 rfl (lv_at hl 3 rfl) ?_
          refine lv_bipush (v := 17) hx hb dL_holds_735 (by decide) ?_
          refine lv_iload hx hb dL_holds_737 (lv_at hl 14 rfl) ?_
          refine lv_iconst (v := 0) hx hb dL_holds_739 (by decide) ?_
          refine lv_iconst (v := 0) hx hb dL_holds_740 (by decide) ?_
          refine cl_o1 (rSP (A := blk b (b + 170)) (As := [.ref b, .int 17, .int (nI j), .int 0, .int 0]) (rest := []) ⟨hx, hb, hml, hown, hts⟩ (c_call_17 l G b (yR (yR X T) T7) (nI j) 0 0 (gw (xN X) j) (yR (yR (yR X T) T7) T8) hst eT8) (va_cwS 5 hts gL_holds_L_call rfl rfl rfl (by decide +kernel) ⟨(Nat.le_of_ble_eq_true rfl), (Nat.le_of_ble_eq_true rfl)⟩) hP hO (thr_at hTh hS (fun q h => h)) hN rfl hl.1 (Nat.le_of_ble_eq_true rfl) dL_holds_741 ⟨(by show 1300 + 20 * j + 1 + 1 + 1 + 1 + 1 ≤ 2000; omega), (by show 7800 + 120 * j + 6 + 6 + 6 + 6 + 6 ≤ 12000; omega)⟩) hS (fun q h => h) (fun H locs hP hS => ?_)
          refine lv_if_ne (tgt := 751) hx hb dL_holds_744 (by decide) (fun _ => ?_) (fun c52 => absurd c52 (fun z => hwn ((gw_0 RX hj).mp z)))
          refine lv_iconst (v := 0) hx hb dL_holds_751 (by decide) ?_
          refine lv_iload hx hb dL_holds_752 (lv_at hl 1 rfl) ?_
          refine lv_if_ne (tgt := 761) hx hb dL_holds_754 (by decide) (fun _ => ?_) (fun c53 => absurd c53 (fun z => absurd (nI_inj (a := wy (mN M) j) (b := 0) (by omega) (by omega) z) (by omega)))
          refine lv_iconst (v := 0) hx hb dL_holds_761 (by decide) ?_
          refine lv_icmp_ne (tgt := 788) hx hb dL_holds_762 (by decide) (fun c54 => absurd (by decide) c54) (fun _ => ?_)
          refine lv_iload hx hb dL_holds_765 (lv_at hl 1 rfl) ?_
          refine lv_if_gt (tgt := 784) hx hb dL_holds_767 (by decide) (fun _ => ?_) (fun c55 => absurd (nI_lt (a := 0) (b := wy (mN M) j) (by omega) (by omega)) c55)
          refine lv_iconst (v := 1) hx hb dL_holds_784 (by decide) ?_
          refine lv_goto (tgt := 789) hx hb dL_holds_785 (by decide) ?_
          refine lv_istore (lv' := [(8, .int 1), (15, .int (nI (nf (mN M) j))), (14, .int (nI (wy (mN M) j))), (13, .int (-1)), (0, .ref b), (1, .int (nI (gm (mN M)))), (2, .int (nI (f_X7_gaps (mN M)))), (3, .int (nI (cO (mN M)))), (4, .int (nI (sm (lk (mN M)) (gm (mN M))))), (5, .int (nI (sm (isT (mN M) 0) (gm (mN M))))), (6, .int (nI (sm (nwK (mN M)) (gm (mN M))))), (7, .int (nI (cE (mN M)))), (9, .int (nI (sm (isC (mN M) (-1)) 80))), (10, .int (nI (f_X7_longest (mN M)))), (12, .int (nI j))]) hx hb dL_holds_789 hl (by decide) rfl (fun ls hl => ?_)
          refine lv_iload hx hb dL_holds_791 (lv_at hl 3 rfl) ?_
          refine lv_istore (lv' := [(16, .int (-1)), (8, .int 1), (15, .int (nI (nf (mN M) j))), (14, .int (nI (wy (mN M) j))), (13, .int (-1)), (0, .ref b), (1, .int (nI (gm (mN M)))), (2, .int (nI (f_X7_gaps (mN M)))), (3, .int (nI (cO (mN M)))), (4, .int (nI (sm (lk (mN M)) (gm (mN M))))), (5, .int (nI (sm (isT (mN M) 0) (gm (mN M))))), (6, .int (nI (sm (nwK (mN M)) (gm (mN M))))), (7, .int (nI (cE (mN M)))), (9, .int (nI (sm (isC (mN M) (-1)) 80))), (10, .int (nI (f_X7_longest (mN M)))), (12, .int (nI j))]) hx hb dL_holds_793 hl (by decide) rfl (fun ls hl => ?_)
          refine lv_iload hx hb dL_holds_795 (lv_at hl 0 rfl) ?_
          refine lv_iload hx hb dL_holds_797 (lv_at hl 4 rfl) ?_
          refine lv_iload hx hb dL_holds_799 (lv_at hl 15 rfl) ?_
          refine lv_iadd hx hb dL_holds_801 ?_
          refine lv_icmp_ge (tgt := 842) hx hb dL_holds_802 (by decide) (fun c56 => absurd c56 (m1_add (by omega) (by omega))) (fun _ => ?_)
          refine lv_iload hx hb dL_holds_805 (lv_at hl 1 rfl) ?_
          refine lv_if_eq (tgt := 842) hx hb dL_holds_807 (by decide) (fun c57 => absurd c57 (by decide)) (fun _ => ?_)
          refine lv_iload hx hb dL_holds_810 (lv_at hl 4 rfl) ?_
          refine lv_iconst (v := -1) hx hb dL_holds_812 (by decide) ?_
          refine lv_icmp_eq (tgt := 842) hx hb dL_holds_813 (by decide) (fun _ => ?_) (fun c58 => absurd (by decide) c58)
          refine lv_iinc (v := nI (j + 1)) (lv' := [(12, .int (nI (j + 1))), (16, .int (-1)), (8, .int 1), (15, .int (nI (nf (mN M) j))), (14, .int (nI (wy (mN M) j))), (13, .int (-1)), (0, .ref b), (1, .int (nI (gm (mN M)))), (2, .int (nI (f_X7_gaps (mN M)))), (3, .int (nI (cO (mN M)))), (4, .int (nI (sm (lk (mN M)) (gm (mN M))))), (5, .int (nI (sm (isT (mN M) 0) (gm (mN M))))), (6, .int (nI (sm (nwK (mN M)) (gm (mN M))))), (7, .int (nI (cE (mN M)))), (9, .int (nI (sm (isC (mN M) (-1)) 80))), (10, .int (nI (f_X7_longest (mN M))))]) hx hb dL_holds_842 hl (k := 15) rfl (nI_1 _) (by decide) rfl (fun ls hl => ?_)
          refine lv_goto (tgt := 594) hx hb dL_holds_845 (by decide) ?_
          refine W.widen (k := 1300 + 20 * (j + 1)) (n := 7800 + 120 * (j + 1)) (by omega) (by omega) ?_
          exact ih594 (j + 1) T8 (by omega) (by omega) (by omega) _ _ _ hP hS (lv_sub hl [6, 7, 8, 9, 10, 11, 12, 13, 2, 14, 15, 0] rfl)
  have cut416 : ∀ (n416 : Nat) (k : Nat), 80 < k + n416 → k ≤ f_X7_gaps (mN M) → ∀ (H : Heap) (locs : List Loc) (ls : Array Slot), Cb G b X H → va_S (blk b (b + 170)) s.heap H locs → lv_has ls 17 [(0, .ref b), (1, .int (nI (gm (mN M)))), (2, .int (nI (f_X7_gaps (mN M)))), (3, .int (nI (cO (mN M)))), (4, .int (nI (sm (lk (mN M)) (gm (mN M))))), (5, .int (nI (sm (isT (mN M) 0) (gm (mN M))))), (6, .int (nI (sm (nwK (mN M)) (gm (mN M))))), (7, .int (nI (cE (mN M)))), (8, .int 1), (9, .int (nI (sm (gcl (mN M)) k))), (10, .int (nI (gmx (mN M) k))), (11, .int (gend (mN M) k)), (12, .int (nI k))] → W p l e (headSpec wsL_holds ({ frames := 12, cells := 2000, slots := 12000, locals := 210 } : Room)).room s m ([.ref b] : List Value).toArray below meth cd H locs (700 + 6 * k) (4200 + 36 * k) (MQ below (QM (some (.int 1)) (fun H => ∃ T, Cb G b (yR X T) H) (blk b (b + 170))) ([.ref b] : List Value).toArray s 2000 12000 (blk b (b + 170))) (F0 m 416 ls []) := by
    intro n416
    induction n416 with
    | zero =>
      intro k hn416 hk0
      omega
    | succ n416 ih416 =>
      intro k hn416 hk0 H locs ls hP hS hl
      refine lv_iload hx hb dL_holds_416 (lv_at hl 12 rfl) ?_
      refine lv_iload_n hx hb dL_holds_418 rfl (lv_at hl 2 rfl) ?_
      refine lv_icmp_ge (tgt := 591) hx hb dL_holds_419 (by decide) (fun c59 => ?_) (fun c59 => ?_)
      · have c59f : f_X7_gaps (mN M) ≤ k := (nI_leI (a := f_X7_gaps (mN M)) (b := k) (by omega) (by omega)).mp c59
        have ek : k = f_X7_gaps (mN M) := by omega
        rw [ek, ← free_gst (mN M), ← longest_gmx (mN M)] at hl
        refine lv_iconst (v := 2) hx hb dL_holds_591 (by decide) ?_
        refine lv_istore (lv' := [(12, .int 2), (0, .ref b), (1, .int (nI (gm (mN M)))), (2, .int (nI (f_X7_gaps (mN M)))), (3, .int (nI (cO (mN M)))), (4, .int (nI (sm (lk (mN M)) (gm (mN M))))), (5, .int (nI (sm (isT (mN M) 0) (gm (mN M))))), (6, .int (nI (sm (nwK (mN M)) (gm (mN M))))), (7, .int (nI (cE (mN M)))), (8, .int 1), (9, .int (nI (sm (isC (mN M) (-1)) 80))), (10, .int (nI (f_X7_longest (mN M)))), (11, .int (gend (mN M) (f_X7_gaps (mN M))))]) hx hb dL_holds_592 hl (by decide) rfl (fun ls hl => ?_)
        refine W.widen (k := 1300 + 20 * 2) (n := 7800 + 120 * 2) (by omega) (by omega) ?_
        exact cut594 (9 + 1) 2 (xR X) (by omega) (by omega) (by omega) _ _ _ hP hS (lv_sub hl [1, 2, 3, 4, 5, 6, 7, 8, 9, 10, 11, 0] rfl)
      · have c59f : ¬ (f_X7_gaps (mN M)) ≤ k := fun z => c59 ((nI_leI (a := f_X7_gaps (mN M)) (b := k) (by omega) (by omega)).mpr z)
        have hk : k < f_X7_gaps (mN M) := by omega
        obtain ⟨hc1, hc2⟩ := gcl_at hk
        have hgm := gmx_le (mN M) k (by omega)
        refine lv_iload hx hb dL_holds_422 (lv_at hl 8 rfl) ?_
        refine lv_if_eq (tgt := 591) hx hb dL_holds_424 (by decide) (fun c60 => absurd c60 (by decide)) (fun _ => ?_)
        refine lv_aload_n hx hb dL_holds_427 rfl (lv_at hl 0 rfl) ?_
        refine lv_iconst (v := 5) hx hb dL_holds_428 (by decide) ?_
        refine lv_iload hx hb dL_holds_429 (lv_at hl 12 rfl) ?_
        refine lv_iconst (v := 0) hx hb dL_holds_431 (by decide) ?_
        refine lv_iconst (v := 0) hx hb dL_holds_432 (by decide) ?_
        refine cl_o1 (rSP (A := blk b (b + 170)) (As := [.ref b, .int 5, .int (nI k), .int 0, .int 0]) (rest := []) ⟨hx, hb, hml, hown, hts⟩ (c_call_5 l G b X (nI k) 0 0 (nI (gst (mN M) k)) X hst (rd_gap0 RX hk)) (va_cwS 5 hts gL_holds_L_call rfl rfl rfl (by decide +kernel) ⟨(Nat.le_of_ble_eq_true rfl), (Nat.le_of_ble_eq_true rfl)⟩) hP hO (thr_at hTh hS (fun q h => h)) hN rfl hl.1 (Nat.le_of_ble_eq_true rfl) dL_holds_433 ⟨(by show 700 + 6 * k + 1 ≤ 2000; omega), (by show 4200 + 36 * k + 6 ≤ 12000; omega)⟩) hS (fun q h => h) (fun H locs hP hS => ?_)
        refine lv_istore (lv' := [(13, .int (nI (gst (mN M) k))), (0, .ref b), (1, .int (nI (gm (mN M)))), (2, .int (nI (f_X7_gaps (mN M)))), (3, .int (nI (cO (mN M)))), (4, .int (nI (sm (lk (mN M)) (gm (mN M))))), (5, .int (nI (sm (isT (mN M) 0) (gm (mN M))))), (6, .int (nI (sm (nwK (mN M)) (gm (mN M))))), (7, .int (nI (cE (mN M)))), (8, .int 1), (9, .int (nI (sm (gcl (mN M)) k))), (10, .int (nI (gmx (mN M) k))), (11, .int (gend (mN M) k)), (12, .int (nI k))]) hx hb dL_holds_436 hl (by decide) rfl (fun ls hl => ?_)
        refine lv_aload_n hx hb dL_holds_438 rfl (lv_at hl 1 rfl) ?_
        refine lv_iconst (v := 5) hx hb dL_holds_439 (by decide) ?_
        refine lv_iload hx hb dL_holds_440 (lv_at hl 13 rfl) ?_
        refine lv_iconst (v := 1) hx hb dL_holds_442 (by decide) ?_
        refine lv_iconst (v := 0) hx hb dL_holds_443 (by decide) ?_
        refine cl_o1 (rSP (A := blk b (b + 170)) (As := [.ref b, .int 5, .int (nI k), .int 1, .int 0]) (rest := []) ⟨hx, hb, hml, hown, hts⟩ (c_call_5 l G b X (nI k) 1 0 (nI (gcl (mN M) k)) X hst (rd_gap1 RX hk)) (va_cwS 5 hts gL_holds_L_call rfl rfl rfl (by decide +kernel) ⟨(Nat.le_of_ble_eq_true rfl), (Nat.le_of_ble_eq_true rfl)⟩) hP hO (thr_at hTh hS (fun q h => h)) hN rfl hl.1 (Nat.le_of_ble_eq_true rfl) dL_holds_444 ⟨(by show 700 + 6 * k + 1 + 1 ≤ 2000; omega), (by show 4200 + 36 * k + 6 + 6 ≤ 12000; omega)⟩) hS (fun q h => h) (fun H locs hP hS => ?_)
        refine lv_istore (lv' := [(14, .int (nI (gcl (mN M) k))), (13, .int (nI (gst (mN M) k))), (0, .ref b), (1, .int (nI (gm (mN M)))), (2, .int (nI (f_X7_gaps (mN M)))), (3, .int (nI (cO (mN M)))), (4, .int (nI (sm (lk (mN M)) (gm (mN M))))), (5, .int (nI (sm (isT (mN M) 0) (gm (mN M))))), (6, .int (nI (sm (nwK (mN M)) (gm (mN M))))), (7, .int (nI (cE (mN M)))), (8, .int 1), (9, .int (nI (sm (gcl (mN M)) k))), (10, .int (nI (gmx (mN M) k))), (11, .int (gend (mN M) k)), (12, .int (nI k))]) hx hb dL_holds_447 hl (by decide) rfl (fun ls hl => ?_)
        refine lv_iload hx hb dL_holds_449 (lv_at hl 11 rfl) ?_
        refine lv_iload hx hb dL_holds_451 (lv_at hl 0 rfl) ?_
        refine iadd_n (a := sm (gcl (mN M)) k) (b := gcl (mN M) k) hx hb dL_holds_453 ?_
        refine lv_istore (lv' := [(9, .int (nI ((sm (gcl (mN M)) k) + (gcl (mN M) k)))), (14, .int (nI (gcl (mN M) k))), (13, .int (nI (gst (mN M) k))), (0, .ref b), (1, .int (nI (gm (mN M)))), (2, .int (nI (f_X7_gaps (mN M)))), (3, .int (nI (cO (mN M)))), (4, .int (nI (sm (lk (mN M)) (gm (mN M))))), (5, .int (nI (sm (isT (mN M) 0) (gm (mN M))))), (6, .int (nI (sm (nwK (mN M)) (gm (mN M))))), (7, .int (nI (cE (mN M)))), (8, .int 1), (10, .int (nI (gmx (mN M) k))), (11, .int (gend (mN M) k)), (12, .int (nI k))]) hx hb dL_holds_454 hl (by decide) rfl (fun ls hl => ?_)
        refine lv_iload hx hb dL_holds_456 (lv_at hl 1 rfl) ?_
        refine lv_iload hx hb dL_holds_458 (lv_at hl 12 rfl) ?_
        refine lv_icmp_le (tgt := 468) hx hb dL_holds_460 (by decide) (fun c61 => ?_) (fun c61 => ?_)
        · have c61f : gcl (mN M) k ≤ gmx (mN M) k := (nI_leI (a := gcl (mN M) k) (b := gmx (mN M) k) (by omega) (by omega)).mp c61
          have eg : gmx (mN M) (k + 1) = gmx (mN M) k := gmx_n (by omega)
          refine lv_iload hx hb dL_holds_468 (lv_at hl 12 rfl) ?_
          rw [show nI (gmx (mN M) k) = nI (gmx (mN M) (k + 1)) from congrArg nI eg.symm]
          refine lv_istore (lv' := [(10, .int (nI (gmx (mN M) (k + 1)))), (9, .int (nI ((sm (gcl (mN M)) k) + (gcl (mN M) k)))), (14, .int (nI (gcl (mN M) k))), (13, .int (nI (gst (mN M) k))), (0, .ref b), (1, .int (nI (gm (mN M)))), (2, .int (nI (f_X7_gaps (mN M)))), (3, .int (nI (cO (mN M)))), (4, .int (nI (sm (lk (mN M)) (gm (mN M))))), (5, .int (nI (sm (isT (mN M) 0) (gm (mN M))))), (6, .int (nI (sm (nwK (mN M)) (gm (mN M))))), (7, .int (nI (cE (mN M)))), (8, .int 1), (11, .int (gend (mN M) k)), (12, .int (nI k))]) hx hb dL_holds_470 hl (by decide) rfl (fun ls hl => ?_)
          refine lv_iload hx hb dL_holds_472 (lv_at hl 3 rfl) ?_
          refine lv_iload hx hb dL_holds_474 (lv_at hl 13 rfl) ?_
          refine lv_icmp_le (tgt := 575) hx hb dL_holds_476 (by decide) (fun c62 => absurd c62 (Int32.not_le.mpr (gend_lt hk))) (fun _ => ?_)
          refine lv_iload hx hb dL_holds_479 (lv_at hl 2 rfl) ?_
          refine lv_if_le (tgt := 575) hx hb dL_holds_481 (by decide) (fun c63 => absurd c63 (nI_ge (a := 0) (b := gcl (mN M) k) (by omega) (by omega))) (fun _ => ?_)
          refine lv_iload hx hb dL_holds_484 (lv_at hl 3 rfl) ?_
          refine lv_iload hx hb dL_holds_486 (lv_at hl 2 rfl) ?_
          refine iadd_n (a := gst (mN M) k) (b := gcl (mN M) k) hx hb dL_holds_488 ?_
          refine lv_bipush (v := 80) hx hb dL_holds_489 (by decide) ?_
          refine lv_icmp_gt (tgt := 575) hx hb dL_holds_491 (by decide) (fun c64 => absurd c64 (nI_nlt (a := 80) (b := (gst (mN M) k) + (gcl (mN M) k)) (by omega) (by omega))) (fun _ => ?_)
          refine lv_iload hx hb dL_holds_494 (lv_at hl 3 rfl) ?_
          refine lv_if_eq (tgt := 514) hx hb dL_holds_496 (by decide) (fun c65 => ?_) (fun c65 => ?_)
          · have c65f : (gst (mN M) k : Nat) = 0 := nI_inj (a := gst (mN M) k) (b := 0) (by omega) (by omega) c65
            refine lv_iload hx hb dL_holds_514 (lv_at hl 3 rfl) ?_
            refine lv_iload hx hb dL_holds_516 (lv_at hl 2 rfl) ?_
            refine iadd_n (a := gst (mN M) k) (b := gcl (mN M) k) hx hb dL_holds_518 ?_
            refine lv_bipush (v := 80) hx hb dL_holds_519 (by decide) ?_
            refine lv_icmp_eq (tgt := 540) hx hb dL_holds_521 (by decide) (fun c66 => ?_) (fun c66 => ?_)
            · have c66f : ((gst (mN M) k) + (gcl (mN M) k) : Nat) = 80 := nI_inj (a := (gst (mN M) k) + (gcl (mN M) k)) (b := 80) (by omega) (by omega) c66
              refine lv_aload_n hx hb dL_holds_540 rfl (lv_at hl 4 rfl) ?_
              refine lv_iconst (v := 4) hx hb dL_holds_541 (by decide) ?_
              refine lv_iload hx hb dL_holds_542 (lv_at hl 3 rfl) ?_
              refine lv_iconst (v := 0) hx hb dL_holds_544 (by decide) ?_
              refine lv_iconst (v := 0) hx hb dL_holds_545 (by decide) ?_
              refine cl_o1 (rSP (A := blk b (b + 170)) (As := [.ref b, .int 4, .int (nI (gst (mN M) k)), .int 0, .int 0]) (rest := []) ⟨hx, hb, hml, hown, hts⟩ (c_call_4 l G b X (nI (gst (mN M) k)) 0 0 (-1) X hst ((rd_at RX (x := gst (mN M) k) (by omega)).trans (by rw [gap_free hk (Nat.le_refl _) (by omega)]))) (va_cwS 5 hts gL_holds_L_call rfl rfl rfl (by decide +kernel) ⟨(Nat.le_of_ble_eq_true rfl), (Nat.le_of_ble_eq_true rfl)⟩) hP hO (thr_at hTh hS (fun q h => h)) hN rfl hl.1 (Nat.le_of_ble_eq_true rfl) dL_holds_546 ⟨(by show 700 + 6 * k + 1 + 1 + 1 ≤ 2000; omega), (by show 4200 + 36 * k + 6 + 6 + 6 ≤ 12000; omega)⟩) hS (fun q h => h) (fun H locs hP hS => ?_)
              refine lv_iconst (v := -1) hx hb dL_holds_549 (by decide) ?_
              refine lv_icmp_ne (tgt := 575) hx hb dL_holds_550 (by decide) (fun c67 => absurd (by decide) c67) (fun _ => ?_)
              refine lv_aload_n hx hb dL_holds_553 rfl (lv_at hl 4 rfl) ?_
              refine lv_iconst (v := 4) hx hb dL_holds_554 (by decide) ?_
              refine lv_iload hx hb dL_holds_555 (lv_at hl 3 rfl) ?_
              refine lv_iload hx hb dL_holds_557 (lv_at hl 2 rfl) ?_
              refine iadd_n (a := gst (mN M) k) (b := gcl (mN M) k) hx hb dL_holds_559 ?_
              refine lv_iconst (v := 1) hx hb dL_holds_560 (by decide) ?_
              refine isub_n (a := (gst (mN M) k) + (gcl (mN M) k)) (b := 1) hx hb (by omega) dL_holds_561 ?_
              refine lv_iconst (v := 0) hx hb dL_holds_562 (by decide) ?_
              refine lv_iconst (v := 0) hx hb dL_holds_563 (by decide) ?_
              refine cl_o1 (rSP (A := blk b (b + 170)) (As := [.ref b, .int 4, .int (nI (((gst (mN M) k) + (gcl (mN M) k)) - 1)), .int 0, .int 0]) (rest := []) ⟨hx, hb, hml, hown, hts⟩ (c_call_4 l G b X (nI (((gst (mN M) k) + (gcl (mN M) k)) - 1)) 0 0 (-1) X hst ((rd_at RX (x := gst (mN M) k + gcl (mN M) k - 1) (by omega)).trans (by rw [gap_free hk (i := gst (mN M) k + gcl (mN M) k - 1) (by omega) (by omega)]))) (va_cwS 5 hts gL_holds_L_call rfl rfl rfl (by decide +kernel) ⟨(Nat.le_of_ble_eq_true rfl), (Nat.le_of_ble_eq_true rfl)⟩) hP hO (thr_at hTh hS (fun q h => h)) hN rfl hl.1 (Nat.le_of_ble_eq_true rfl) dL_holds_564 ⟨(by show 700 + 6 * k + 1 + 1 + 1 + 1 ≤ 2000; omega), (by show 4200 + 36 * k + 6 + 6 + 6 + 6 ≤ 12000; omega)⟩) hS (fun q h => h) (fun H locs hP hS => ?_)
              refine lv_iconst (v := -1) hx hb dL_holds_567 (by decide) ?_
              refine lv_icmp_ne (tgt := 575) hx hb dL_holds_568 (by decide) (fun c68 => absurd (by decide) c68) (fun _ => ?_)
              refine lv_iconst (v := 1) hx hb dL_holds_571 (by decide) ?_
              refine lv_goto (tgt := 576) hx hb dL_holds_572 (by decide) ?_
              refine lv_istore (lv' := [(8, .int 1), (10, .int (nI (gmx (mN M) (k + 1)))), (9, .int (nI ((sm (gcl (mN M)) k) + (gcl (mN M) k)))), (14, .int (nI (gcl (mN M) k))), (13, .int (nI (gst (mN M) k))), (0, .ref b), (1, .int (nI (gm (mN M)))), (2, .int (nI (f_X7_gaps (mN M)))), (3, .int (nI (cO (mN M)))), (4, .int (nI (sm (lk (mN M)) (gm (mN M))))), (5, .int (nI (sm (isT (mN M) 0) (gm (mN M))))), (6, .int (nI (sm (nwK (mN M)) (gm (mN M))))), (7, .int (nI (cE (mN M)))), (11, .int (gend (mN M) k)), (12, .int (nI k))]) hx hb dL_holds_576 hl (by decide) rfl (fun ls hl => ?_)
              refine lv_iload hx hb dL_holds_578 (lv_at hl 4 rfl) ?_
              refine lv_iload hx hb dL_holds_580 (lv_at hl 3 rfl) ?_
              refine iadd_n (a := gst (mN M) k) (b := gcl (mN M) k) hx hb dL_holds_582 ?_
              refine lv_istore (lv' := [(11, .int (nI ((gst (mN M) k) + (gcl (mN M) k)))), (8, .int 1), (10, .int (nI (gmx (mN M) (k + 1)))), (9, .int (nI ((sm (gcl (mN M)) k) + (gcl (mN M) k)))), (14, .int (nI (gcl (mN M) k))), (13, .int (nI (gst (mN M) k))), (0, .ref b), (1, .int (nI (gm (mN M)))), (2, .int (nI (f_X7_gaps (mN M)))), (3, .int (nI (cO (mN M)))), (4, .int (nI (sm (lk (mN M)) (gm (mN M))))), (5, .int (nI (sm (isT (mN M) 0) (gm (mN M))))), (6, .int (nI (sm (nwK (mN M)) (gm (mN M))))), (7, .int (nI (cE (mN M)))), (12, .int (nI k))]) hx hb dL_holds_583 hl (by decide) rfl (fun ls hl => ?_)
              refine lv_iinc (v := nI (k + 1)) (lv' := [(12, .int (nI (k + 1))), (11, .int (nI ((gst (mN M) k) + (gcl (mN M) k)))), (8, .int 1), (10, .int (nI (gmx (mN M) (k + 1)))), (9, .int (nI ((sm (gcl (mN M)) k) + (gcl (mN M) k)))), (14, .int (nI (gcl (mN M) k))), (13, .int (nI (gst (mN M) k))), (0, .ref b), (1, .int (nI (gm (mN M)))), (2, .int (nI (f_X7_gaps (mN M)))), (3, .int (nI (cO (mN M)))), (4, .int (nI (sm (lk (mN M)) (gm (mN M))))), (5, .int (nI (sm (isT (mN M) 0) (gm (mN M))))), (6, .int (nI (sm (nwK (mN M)) (gm (mN M))))), (7, .int (nI (cE (mN M))))]) hx hb dL_holds_585 hl (k := 14) rfl (nI_1 _) (by decide) rfl (fun ls hl => ?_)
              refine lv_goto (tgt := 416) hx hb dL_holds_588 (by decide) ?_
              refine W.widen (k := 700 + 6 * (k + 1)) (n := 4200 + 36 * (k + 1)) (by omega) (by omega) ?_
              exact ih416 (k + 1) (by omega) (by omega) _ _ _ hP hS (lv_sub hl [7, 8, 9, 10, 11, 12, 13, 14, 2, 4, 3, 1, 0] rfl)
            · have c66f : ¬ ((gst (mN M) k) + (gcl (mN M) k) : Nat) = 80 := fun z => c66 (congrArg nI z)
              refine lv_aload_n hx hb dL_holds_524 rfl (lv_at hl 4 rfl) ?_
              refine lv_iconst (v := 4) hx hb dL_holds_525 (by decide) ?_
              refine lv_iload hx hb dL_holds_526 (lv_at hl 3 rfl) ?_
              refine lv_iload hx hb dL_holds_528 (lv_at hl 2 rfl) ?_
              refine iadd_n (a := gst (mN M) k) (b := gcl (mN M) k) hx hb dL_holds_530 ?_
              refine lv_iconst (v := 0) hx hb dL_holds_531 (by decide) ?_
              refine lv_iconst (v := 0) hx hb dL_holds_532 (by decide) ?_
              refine cl_o1 (rSP (A := blk b (b + 170)) (As := [.ref b, .int 4, .int (nI ((gst (mN M) k) + (gcl (mN M) k))), .int 0, .int 0]) (rest := []) ⟨hx, hb, hml, hown, hts⟩ (c_call_4 l G b X (nI ((gst (mN M) k) + (gcl (mN M) k))) 0 0 ((mN M) (7 + (gst (mN M) k + gcl (mN M) k))) X hst (rd_at RX (x := gst (mN M) k + gcl (mN M) k) (by omega))) (va_cwS 5 hts gL_holds_L_call rfl rfl rfl (by decide +kernel) ⟨(Nat.le_of_ble_eq_true rfl), (Nat.le_of_ble_eq_true rfl)⟩) hP hO (thr_at hTh hS (fun q h => h)) hN rfl hl.1 (Nat.le_of_ble_eq_true rfl) dL_holds_533 ⟨(by show 700 + 6 * k + 1 + 1 + 1 ≤ 2000; omega), (by show 4200 + 36 * k + 6 + 6 + 6 ≤ 12000; omega)⟩) hS (fun q h => h) (fun H locs hP hS => ?_)
              refine lv_iconst (v := -1) hx hb dL_holds_536 (by decide) ?_
              refine lv_icmp_eq (tgt := 575) hx hb dL_holds_537 (by decide) (fun c69 => absurd c69 (gap_high hk (by omega))) (fun _ => ?_)
              refine lv_aload_n hx hb dL_holds_540 rfl (lv_at hl 4 rfl) ?_
              refine lv_iconst (v := 4) hx hb dL_holds_541 (by decide) ?_
              refine lv_iload hx hb dL_holds_542 (lv_at hl 3 rfl) ?_
              refine lv_iconst (v := 0) hx hb dL_holds_544 (by decide) ?_
              refine lv_iconst (v := 0) hx hb dL_holds_545 (by decide) ?_
              refine cl_o1 (rSP (A := blk b (b + 170)) (As := [.ref b, .int 4, .int (nI (gst (mN M) k)), .int 0, .int 0]) (rest := []) ⟨hx, hb, hml, hown, hts⟩ (c_call_4 l G b X (nI (gst (mN M) k)) 0 0 (-1) X hst ((rd_at RX (x := gst (mN M) k) (by omega)).trans (by rw [gap_free hk (Nat.le_refl _) (by omega)]))) (va_cwS 5 hts gL_holds_L_call rfl rfl rfl (by decide +kernel) ⟨(Nat.le_of_ble_eq_true rfl), (Nat.le_of_ble_eq_true rfl)⟩) hP hO (thr_at hTh hS (fun q h => h)) hN rfl hl.1 (Nat.le_of_ble_eq_true rfl) dL_holds_546 ⟨(by show 700 + 6 * k + 1 + 1 + 1 + 1 ≤ 2000; omega), (by show 4200 + 36 * k + 6 + 6 + 6 + 6 ≤ 12000; omega)⟩) hS (fun q h => h) (fun H locs hP hS => ?_)
              refine lv_iconst (v := -1) hx hb dL_holds_549 (by decide) ?_
              refine lv_icmp_ne (tgt := 575) hx hb dL_holds_550 (by decide) (fun c70 => absurd (by decide) c70) (fun _ => ?_)
              refine lv_aload_n hx hb dL_holds_553 rfl (lv_at hl 4 rfl) ?_
              refine lv_iconst (v := 4) hx hb dL_holds_554 (by decide) ?_
              refine lv_iload hx hb dL_holds_555 (lv_at hl 3 rfl) ?_
              refine lv_iload hx hb dL_holds_557 (lv_at hl 2 rfl) ?_
              refine iadd_n (a := gst (mN M) k) (b := gcl (mN M) k) hx hb dL_holds_559 ?_
              refine lv_iconst (v := 1) hx hb dL_holds_560 (by decide) ?_
              refine isub_n (a := (gst (mN M) k) + (gcl (mN M) k)) (b := 1) hx hb (by omega) dL_holds_561 ?_
              refine lv_iconst (v := 0) hx hb dL_holds_562 (by decide) ?_
              refine lv_iconst (v := 0) hx hb dL_holds_563 (by decide) ?_
              refine cl_o1 (rSP (A := blk b (b + 170)) (As := [.ref b, .int 4, .int (nI (((gst (mN M) k) + (gcl (mN M) k)) - 1)), .int 0, .int 0]) (rest := []) ⟨hx, hb, hml, hown, hts⟩ (c_call_4 l G b X (nI (((gst (mN M) k) + (gcl (mN M) k)) - 1)) 0 0 (-1) X hst ((rd_at RX (x := gst (mN M) k + gcl (mN M) k - 1) (by omega)).trans (by rw [gap_free hk (i := gst (mN M) k + gcl (mN M) k - 1) (by omega) (by omega)]))) (va_cwS 5 hts gL_holds_L_call rfl rfl rfl (by decide +kernel) ⟨(Nat.le_of_ble_eq_true rfl), (Nat.le_of_ble_eq_true rfl)⟩) hP hO (thr_at hTh hS (fun q h => h)) hN rfl hl.1 (Nat.le_of_ble_eq_true rfl) dL_holds_564 ⟨(by show 700 + 6 * k + 1 + 1 + 1 + 1 + 1 ≤ 2000; omega), (by show 4200 + 36 * k + 6 + 6 + 6 + 6 + 6 ≤ 12000; omega)⟩) hS (fun q h => h) (fun H locs hP hS => ?_)
              refine lv_iconst (v := -1) hx hb dL_holds_567 (by decide) ?_
              refine lv_icmp_ne (tgt := 575) hx hb dL_holds_568 (by decide) (fun c71 => absurd (by decide) c71) (fun _ => ?_)
              refine lv_iconst (v := 1) hx hb dL_holds_571 (by decide) ?_
              refine lv_goto (tgt := 576) hx hb dL_holds_572 (by decide) ?_
              refine lv_istore (lv' := [(8, .int 1), (10, .int (nI (gmx (mN M) (k + 1)))), (9, .int (nI ((sm (gcl (mN M)) k) + (gcl (mN M) k)))), (14, .int (nI (gcl (mN M) k))), (13, .int (nI (gst (mN M) k))), (0, .ref b), (1, .int (nI (gm (mN M)))), (2, .int (nI (f_X7_gaps (mN M)))), (3, .int (nI (cO (mN M)))), (4, .int (nI (sm (lk (mN M)) (gm (mN M))))), (5, .int (nI (sm (isT (mN M) 0) (gm (mN M))))), (6, .int (nI (sm (nwK (mN M)) (gm (mN M))))), (7, .int (nI (cE (mN M)))), (11, .int (gend (mN M) k)), (12, .int (nI k))]) hx hb dL_holds_576 hl (by decide) rfl (fun ls hl => ?_)
              refine lv_iload hx hb dL_holds_578 (lv_at hl 4 rfl) ?_
              refine lv_iload hx hb dL_holds_580 (lv_at hl 3 rfl) ?_
              refine iadd_n (a := gst (mN M) k) (b := gcl (mN M) k) hx hb dL_holds_582 ?_
              refine lv_istore (lv' := [(11, .int (nI ((gst (mN M) k) + (gcl (mN M) k)))), (8, .int 1), (10, .int (nI (gmx (mN M) (k + 1)))), (9, .int (nI ((sm (gcl (mN M)) k) + (gcl (mN M) k)))), (14, .int (nI (gcl (mN M) k))), (13, .int (nI (gst (mN M) k))), (0, .ref b), (1, .int (nI (gm (mN M)))), (2, .int (nI (f_X7_gaps (mN M)))), (3, .int (nI (cO (mN M)))), (4, .int (nI (sm (lk (mN M)) (gm (mN M))))), (5, .int (nI (sm (isT (mN M) 0) (gm (mN M))))), (6, .int (nI (sm (nwK (mN M)) (gm (mN M))))), (7, .int (nI (cE (mN M)))), (12, .int (nI k))]) hx hb dL_holds_583 hl (by decide) rfl (fun ls hl => ?_)
              refine lv_iinc (v := nI (k + 1)) (lv' := [(12, .int (nI (k + 1))), (11, .int (nI ((gst (mN M) k) + (gcl (mN M) k)))), (8, .int 1), (10, .int (nI (gmx (mN M) (k + 1)))), (9, .int (nI ((sm (gcl (mN M)) k) + (gcl (mN M) k)))), (14, .int (nI (gcl (mN M) k))), (13, .int (nI (gst (mN M) k))), (0, .ref b), (1, .int (nI (gm (mN M)))), (2, .int (nI (f_X7_gaps (mN M)))), (3, .int (nI (cO (mN M)))), (4, .int (nI (sm (lk (mN M)) (gm (mN M))))), (5, .int (nI (sm (isT (mN M) 0) (gm (mN M))))), (6, .int (nI (sm (nwK (mN M)) (gm (mN M))))), (7, .int (nI (cE (mN M))))]) hx hb dL_holds_585 hl (k := 14) rfl (nI_1 _) (by decide) rfl (fun ls hl => ?_)
              refine lv_goto (tgt := 416) hx hb dL_holds_588 (by decide) ?_
              refine W.widen (k := 700 + 6 * (k + 1)) (n := 4200 + 36 * (k + 1)) (by omega) (by omega) ?_
              exact ih416 (k + 1) (by omega) (by omega) _ _ _ hP hS (lv_sub hl [7, 8, 9, 10, 11, 12, 13, 14, 2, 4, 3, 1, 0] rfl)
          · have c65f : ¬ (gst (mN M) k : Nat) = 0 := fun z => c65 (congrArg nI z)
            refine lv_aload_n hx hb dL_holds_499 rfl (lv_at hl 4 rfl) ?_
            refine lv_iconst (v := 4) hx hb dL_holds_500 (by decide) ?_
            refine lv_iload hx hb dL_holds_501 (lv_at hl 3 rfl) ?_
            refine lv_iconst (v := 1) hx hb dL_holds_503 (by decide) ?_
            refine isub_n (a := gst (mN M) k) (b := 1) hx hb (by omega) dL_holds_504 ?_
            refine lv_iconst (v := 0) hx hb dL_holds_505 (by decide) ?_
            refine lv_iconst (v := 0) hx hb dL_holds_506 (by decide) ?_
            refine cl_o1 (rSP (A := blk b (b + 170)) (As := [.ref b, .int 4, .int (nI ((gst (mN M) k) - 1)), .int 0, .int 0]) (rest := []) ⟨hx, hb, hml, hown, hts⟩ (c_call_4 l G b X (nI ((gst (mN M) k) - 1)) 0 0 ((mN M) (7 + (gst (mN M) k - 1))) X hst (rd_at RX (x := gst (mN M) k - 1) (by omega))) (va_cwS 5 hts gL_holds_L_call rfl rfl rfl (by decide +kernel) ⟨(Nat.le_of_ble_eq_true rfl), (Nat.le_of_ble_eq_true rfl)⟩) hP hO (thr_at hTh hS (fun q h => h)) hN rfl hl.1 (Nat.le_of_ble_eq_true rfl) dL_holds_507 ⟨(by show 700 + 6 * k + 1 + 1 + 1 ≤ 2000; omega), (by show 4200 + 36 * k + 6 + 6 + 6 ≤ 12000; omega)⟩) hS (fun q h => h) (fun H locs hP hS => ?_)
            refine lv_iconst (v := -1) hx hb dL_holds_510 (by decide) ?_
            refine lv_icmp_eq (tgt := 575) hx hb dL_holds_511 (by decide) (fun c72 => absurd c72 (gap_low hk (by omega))) (fun _ => ?_)
            refine lv_iload hx hb dL_holds_514 (lv_at hl 3 rfl) ?_
            refine lv_iload hx hb dL_holds_516 (lv_at hl 2 rfl) ?_
            refine iadd_n (a := gst (mN M) k) (b := gcl (mN M) k) hx hb dL_holds_518 ?_
            refine lv_bipush (v := 80) hx hb dL_holds_519 (by decide) ?_
            refine lv_icmp_eq (tgt := 540) hx hb dL_holds_521 (by decide) (fun c73 => ?_) (fun c73 => ?_)
            · have c73f : ((gst (mN M) k) + (gcl (mN M) k) : Nat) = 80 := nI_inj (a := (gst (mN M) k) + (gcl (mN M) k)) (b := 80) (by omega) (by omega) c73
              refine lv_aload_n hx hb dL_holds_540 rfl (lv_at hl 4 rfl) ?_
              refine lv_iconst (v := 4) hx hb dL_holds_541 (by decide) ?_
              refine lv_iload hx hb dL_holds_542 (lv_at hl 3 rfl) ?_
              refine lv_iconst (v := 0) hx hb dL_holds_544 (by decide) ?_
              refine lv_iconst (v := 0) hx hb dL_holds_545 (by decide) ?_
              refine cl_o1 (rSP (A := blk b (b + 170)) (As := [.ref b, .int 4, .int (nI (gst (mN M) k)), .int 0, .int 0]) (rest := []) ⟨hx, hb, hml, hown, hts⟩ (c_call_4 l G b X (nI (gst (mN M) k)) 0 0 (-1) X hst ((rd_at RX (x := gst (mN M) k) (by omega)).trans (by rw [gap_free hk (Nat.le_refl _) (by omega)]))) (va_cwS 5 hts gL_holds_L_call rfl rfl rfl (by decide +kernel) ⟨(Nat.le_of_ble_eq_true rfl), (Nat.le_of_ble_eq_true rfl)⟩) hP hO (thr_at hTh hS (fun q h => h)) hN rfl hl.1 (Nat.le_of_ble_eq_true rfl) dL_holds_546 ⟨(by show 700 + 6 * k + 1 + 1 + 1 + 1 ≤ 2000; omega), (by show 4200 + 36 * k + 6 + 6 + 6 + 6 ≤ 12000; omega)⟩) hS (fun q h => h) (fun H locs hP hS => ?_)
              refine lv_iconst (v := -1) hx hb dL_holds_549 (by decide) ?_
              refine lv_icmp_ne (tgt := 575) hx hb dL_holds_550 (by decide) (fun c74 => absurd (by decide) c74) (fun _ => ?_)
              refine lv_aload_n hx hb dL_holds_553 rfl (lv_at hl 4 rfl) ?_
              refine lv_iconst (v := 4) hx hb dL_holds_554 (by decide) ?_
              refine lv_iload hx hb dL_holds_555 (lv_at hl 3 rfl) ?_
              refine lv_iload hx hb dL_holds_557 (lv_at hl 2 rfl) ?_
              refine iadd_n (a := gst (mN M) k) (b := gcl (mN M) k) hx hb dL_holds_559 ?_
              refine lv_iconst (v := 1) hx hb dL_holds_560 (by decide) ?_
              refine isub_n (a := (gst (mN M) k) + (gcl (mN M) k)) (b := 1) hx hb (by omega) dL_holds_561 ?_
              refine lv_iconst (v := 0) hx hb dL_holds_562 (by decide) ?_
              refine lv_iconst (v := 0) hx hb dL_holds_563 (by decide) ?_
              refine cl_o1 (rSP (A := blk b (b + 170)) (As := [.ref b, .int 4, .int (nI (((gst (mN M) k) + (gcl (mN M) k)) - 1)), .int 0, .int 0]) (rest := []) ⟨hx, hb, hml, hown, hts⟩ (c_call_4 l G b X (nI (((gst (mN M) k) + (gcl (mN M) k)) - 1)) 0 0 (-1) X hst ((rd_at RX (x := gst (mN M) k + gcl (mN M) k - 1) (by omega)).trans (by rw [gap_free hk (i := gst (mN M) k + gcl (mN M) k - 1) (by omega) (by omega)]))) (va_cwS 5 hts gL_holds_L_call rfl rfl rfl (by decide +kernel) ⟨(Nat.le_of_ble_eq_true rfl), (Nat.le_of_ble_eq_true rfl)⟩) hP hO (thr_at hTh hS (fun q h => h)) hN rfl hl.1 (Nat.le_of_ble_eq_true rfl) dL_holds_564 ⟨(by show 700 + 6 * k + 1 + 1 + 1 + 1 + 1 ≤ 2000; omega), (by show 4200 + 36 * k + 6 + 6 + 6 + 6 + 6 ≤ 12000; omega)⟩) hS (fun q h => h) (fun H locs hP hS => ?_)
              refine lv_iconst (v := -1) hx hb dL_holds_567 (by decide) ?_
              refine lv_icmp_ne (tgt := 575) hx hb dL_holds_568 (by decide) (fun c75 => absurd (by decide) c75) (fun _ => ?_)
              refine lv_iconst (v := 1) hx hb dL_holds_571 (by decide) ?_
              refine lv_goto (tgt := 576) hx hb dL_holds_572 (by decide) ?_
              refine lv_istore (lv' := [(8, .int 1), (10, .int (nI (gmx (mN M) (k + 1)))), (9, .int (nI ((sm (gcl (mN M)) k) + (gcl (mN M) k)))), (14, .int (nI (gcl (mN M) k))), (13, .int (nI (gst (mN M) k))), (0, .ref b), (1, .int (nI (gm (mN M)))), (2, .int (nI (f_X7_gaps (mN M)))), (3, .int (nI (cO (mN M)))), (4, .int (nI (sm (lk (mN M)) (gm (mN M))))), (5, .int (nI (sm (isT (mN M) 0) (gm (mN M))))), (6, .int (nI (sm (nwK (mN M)) (gm (mN M))))), (7, .int (nI (cE (mN M)))), (11, .int (gend (mN M) k)), (12, .int (nI k))]) hx hb dL_holds_576 hl (by decide) rfl (fun ls hl => ?_)
              refine lv_iload hx hb dL_holds_578 (lv_at hl 4 rfl) ?_
              refine lv_iload hx hb dL_holds_580 (lv_at hl 3 rfl) ?_
              refine iadd_n (a := gst (mN M) k) (b := gcl (mN M) k) hx hb dL_holds_582 ?_
              refine lv_istore (lv' := [(11, .int (nI ((gst (mN M) k) + (gcl (mN M) k)))), (8, .int 1), (10, .int (nI (gmx (mN M) (k + 1)))), (9, .int (nI ((sm (gcl (mN M)) k) + (gcl (mN M) k)))), (14, .int (nI (gcl (mN M) k))), (13, .int (nI (gst (mN M) k))), (0, .ref b), (1, .int (nI (gm (mN M)))), (2, .int (nI (f_X7_gaps (mN M)))), (3, .int (nI (cO (mN M)))), (4, .int (nI (sm (lk (mN M)) (gm (mN M))))), (5, .int (nI (sm (isT (mN M) 0) (gm (mN M))))), (6, .int (nI (sm (nwK (mN M)) (gm (mN M))))), (7, .int (nI (cE (mN M)))), (12, .int (nI k))]) hx hb dL_holds_583 hl (by decide) rfl (fun ls hl => ?_)
              refine lv_iinc (v := nI (k + 1)) (lv' := [(12, .int (nI (k + 1))), (11, .int (nI ((gst (mN M) k) + (gcl (mN M) k)))), (8, .int 1), (10, .int (nI (gmx (mN M) (k + 1)))), (9, .int (nI ((sm (gcl (mN M)) k) + (gcl (mN M) k)))), (14, .int (nI (gcl (mN M) k))), (13, .int (nI (gst (mN M) k))), (0, .ref b), (1, .int (nI (gm (mN M)))), (2, .int (nI (f_X7_gaps (mN M)))), (3, .int (nI (cO (mN M)))), (4, .int (nI (sm (lk (mN M)) (gm (mN M))))), (5, .int (nI (sm (isT (mN M) 0) (gm (mN M))))), (6, .int (nI (sm (nwK (mN M)) (gm (mN M))))), (7, .int (nI (cE (mN M))))]) hx hb dL_holds_585 hl (k := 14) rfl (nI_1 _) (by decide) rfl (fun ls hl => ?_)
              refine lv_goto (tgt := 416) hx hb dL_holds_588 (by decide) ?_
              refine W.widen (k := 700 + 6 * (k + 1)) (n := 4200 + 36 * (k + 1)) (by omega) (by omega) ?_
              exact ih416 (k + 1) (by omega) (by omega) _ _ _ hP hS (lv_sub hl [7, 8, 9, 10, 11, 12, 13, 14, 2, 4, 3, 1, 0] rfl)
            · have c73f : ¬ ((gst (mN M) k) + (gcl (mN M) k) : Nat) = 80 := fun z => c73 (congrArg nI z)
              refine lv_aload_n hx hb dL_holds_524 rfl (lv_at hl 4 rfl) ?_
              refine lv_iconst (v := 4) hx hb dL_holds_525 (by decide) ?_
              refine lv_iload hx hb dL_holds_526 (lv_at hl 3 rfl) ?_
              refine lv_iload hx hb dL_holds_528 (lv_at hl 2 rfl) ?_
              refine iadd_n (a := gst (mN M) k) (b := gcl (mN M) k) hx hb dL_holds_530 ?_
              refine lv_iconst (v := 0) hx hb dL_holds_531 (by decide) ?_
              refine lv_iconst (v := 0) hx hb dL_holds_532 (by decide) ?_
              refine cl_o1 (rSP (A := blk b (b + 170)) (As := [.ref b, .int 4, .int (nI ((gst (mN M) k) + (gcl (mN M) k))), .int 0, .int 0]) (rest := []) ⟨hx, hb, hml, hown, hts⟩ (c_call_4 l G b X (nI ((gst (mN M) k) + (gcl (mN M) k))) 0 0 ((mN M) (7 + (gst (mN M) k + gcl (mN M) k))) X hst (rd_at RX (x := gst (mN M) k + gcl (mN M) k) (by omega))) (va_cwS 5 hts gL_holds_L_call rfl rfl rfl (by decide +kernel) ⟨(Nat.le_of_ble_eq_true rfl), (Nat.le_of_ble_eq_true rfl)⟩) hP hO (thr_at hTh hS (fun q h => h)) hN rfl hl.1 (Nat.le_of_ble_eq_true rfl) dL_holds_533 ⟨(by show 700 + 6 * k + 1 + 1 + 1 + 1 ≤ 2000; omega), (by show 4200 + 36 * k + 6 + 6 + 6 + 6 ≤ 12000; omega)⟩) hS (fun q h => h) (fun H locs hP hS => ?_)
              refine lv_iconst (v := -1) hx hb dL_holds_536 (by decide) ?_
              refine lv_icmp_eq (tgt := 575) hx hb dL_holds_537 (by decide) (fun c76 => absurd c76 (gap_high hk (by omega))) (fun _ => ?_)
              refine lv_aload_n hx hb dL_holds_540 rfl (lv_at hl 4 rfl) ?_
              refine lv_iconst (v := 4) hx hb dL_holds_541 (by decide) ?_
              refine lv_iload hx hb dL_holds_542 (lv_at hl 3 rfl) ?_
              refine lv_iconst (v := 0) hx hb dL_holds_544 (by decide) ?_
              refine lv_iconst (v := 0) hx hb dL_holds_545 (by decide) ?_
              refine cl_o1 (rSP (A := blk b (b + 170)) (As := [.ref b, .int 4, .int (nI (gst (mN M) k)), .int 0, .int 0]) (rest := []) ⟨hx, hb, hml, hown, hts⟩ (c_call_4 l G b X (nI (gst (mN M) k)) 0 0 (-1) X hst ((rd_at RX (x := gst (mN M) k) (by omega)).trans (by rw [gap_free hk (Nat.le_refl _) (by omega)]))) (va_cwS 5 hts gL_holds_L_call rfl rfl rfl (by decide +kernel) ⟨(Nat.le_of_ble_eq_true rfl), (Nat.le_of_ble_eq_true rfl)⟩) hP hO (thr_at hTh hS (fun q h => h)) hN rfl hl.1 (Nat.le_of_ble_eq_true rfl) dL_holds_546 ⟨(by show 700 + 6 * k + 1 + 1 + 1 + 1 + 1 ≤ 2000; omega), (by show 4200 + 36 * k + 6 + 6 + 6 + 6 + 6 ≤ 12000; omega)⟩) hS (fun q h => h) (fun H locs hP hS => ?_)
              refine lv_iconst (v := -1) hx hb dL_holds_549 (by decide) ?_
              refine lv_icmp_ne (tgt := 575) hx hb dL_holds_550 (by decide) (fun c77 => absurd (by decide) c77) (fun _ => ?_)
              refine lv_aload_n hx hb dL_holds_553 rfl (lv_at hl 4 rfl) ?_
              refine lv_iconst (v := 4) hx hb dL_holds_554 (by decide) ?_
              refine lv_iload hx hb dL_holds_555 (lv_at hl 3 rfl) ?_
              refine lv_iload hx hb dL_holds_557 (lv_at hl 2 rfl) ?_
              refine iadd_n (a := gst (mN M) k) (b := gcl (mN M) k) hx hb dL_holds_559 ?_
              refine lv_iconst (v := 1) hx hb dL_holds_560 (by decide) ?_
              refine isub_n (a := (gst (mN M) k) + (gcl (mN M) k)) (b := 1) hx hb (by omega) dL_holds_561 ?_
              refine lv_iconst (v := 0) hx hb dL_holds_562 (by decide) ?_
              refine lv_iconst (v := 0) hx hb dL_holds_563 (by decide) ?_
              refine cl_o1 (rSP (A := blk b (b + 170)) (As := [.ref b, .int 4, .int (nI (((gst (mN M) k) + (gcl (mN M) k)) - 1)), .int 0, .int 0]) (rest := []) ⟨hx, hb, hml, hown, hts⟩ (c_call_4 l G b X (nI (((gst (mN M) k) + (gcl (mN M) k)) - 1)) 0 0 (-1) X hst ((rd_at RX (x := gst (mN M) k + gcl (mN M) k - 1) (by omega)).trans (by rw [gap_free hk (i := gst (mN M) k + gcl (mN M) k - 1) (by omega) (by omega)]))) (va_cwS 5 hts gL_holds_L_call rfl rfl rfl (by decide +kernel) ⟨(Nat.le_of_ble_eq_true rfl), (Nat.le_of_ble_eq_true rfl)⟩) hP hO (thr_at hTh hS (fun q h => h)) hN rfl hl.1 (Nat.le_of_ble_eq_true rfl) dL_holds_564 ⟨(by show 700 + 6 * k + 1 + 1 + 1 + 1 + 1 + 1 ≤ 2000; omega), (by show 4200 + 36 * k + 6 + 6 + 6 + 6 + 6 + 6 ≤ 12000; omega)⟩) hS (fun q h => h) (fun H locs hP hS => ?_)
              refine lv_iconst (v := -1) hx hb dL_holds_567 (by decide) ?_
              refine lv_icmp_ne (tgt := 575) hx hb dL_holds_568 (by decide) (fun c78 => absurd (by decide) c78) (fun _ => ?_)
              refine lv_iconst (v := 1) hx hb dL_holds_571 (by decide) ?_
              refine lv_goto (tgt := 576) hx hb dL_holds_572 (by decide) ?_
              refine lv_istore (lv' := [(8, .int 1), (10, .int (nI (gmx (mN M) (k + 1)))), (9, .int (nI ((sm (gcl (mN M)) k) + (gcl (mN M) k)))), (14, .int (nI (gcl (mN M) k))), (13, .int (nI (gst (mN M) k))), (0, .ref b), (1, .int (nI (gm (mN M)))), (2, .int (nI (f_X7_gaps (mN M)))), (3, .int (nI (cO (mN M)))), (4, .int (nI (sm (lk (mN M)) (gm (mN M))))), (5, .int (nI (sm (isT (mN M) 0) (gm (mN M))))), (6, .int (nI (sm (nwK (mN M)) (gm (mN M))))), (7, .int (nI (cE (mN M)))), (11, .int (gend (mN M) k)), (12, .int (nI k))]) hx hb dL_holds_576 hl (by decide) rfl (fun ls hl => ?_)
              refine lv_iload hx hb dL_holds_578 (lv_at hl 4 rfl) ?_
              refine lv_iload hx hb dL_holds_580 (lv_at hl 3 rfl) ?_
              refine iadd_n (a := gst (mN M) k) (b := gcl (mN M) k) hx hb dL_holds_582 ?_
              refine lv_istore (lv' := [(11, .int (nI ((gst (mN M) k) + (gcl (mN M) k)))), (8, .int 1), (10, .int (nI (gmx (mN M) (k + 1)))), (9, .int (nI ((sm (gcl (mN M)) k) + (gcl (mN M) k)))), (14, .int (nI (gcl (mN M) k))), (13, .int (nI (gst (mN M) k))), (0, .ref b), (1, .int (nI (gm (mN M)))), (2, .int (nI (f_X7_gaps (mN M)))), (3, .int (nI (cO (mN M)))), (4, .int (nI (sm (lk (mN M)) (gm (mN M))))), (5, .int (nI (sm (isT (mN M) 0) (gm (mN M))))), (6, .int (nI (sm (nwK (mN M)) (gm (mN M))))), (7, .int (nI (cE (mN M)))), (12, .int (nI k))]) hx hb dL_holds_583 hl (by decide) rfl (fun ls hl => ?_)
              refine lv_iinc (v := nI (k + 1)) (lv' := [(12, .int (nI (k + 1))), (11, .int (nI ((gst (mN M) k) + (gcl (mN M) k)))), (8, .int 1), (10, .int (nI (gmx (mN M) (k + 1)))), (9, .int (nI ((sm (gcl (mN M)) k) + (gcl (mN M) k)))), (14, .int (nI (gcl (mN M) k))), (13, .int (nI (gst (mN M) k))), (0, .ref b), (1, .int (nI (gm (mN M)))), (2, .int (nI (f_X7_gaps (mN M)))), (3, .int (nI (cO (mN M)))), (4, .int (nI (sm (lk (mN M)) (gm (mN M))))), (5, .int (nI (sm (isT (mN M) 0) (gm (mN M))))), (6, .int (nI (sm (nwK (mN M)) (gm (mN M))))), (7, .int (nI (cE (mN M))))]) hx hb dL_holds_585 hl (k := 14) rfl (nI_1 _) (by decide) rfl (fun ls hl => ?_)
              refine lv_goto (tgt := 416) hx hb dL_holds_588 (by decide) ?_
              refine W.widen (k := 700 + 6 * (k + 1)) (n := 4200 + 36 * (k + 1)) (by omega) (by omega) ?_
              exact ih416 (k + 1) (by omega) (by omega) _ _ _ hP hS (lv_sub hl [7, 8, 9, 10, 11, 12, 13, 14, 2, 4, 3, 1, 0] rfl)
        · have c61f : ¬ (gcl (mN M) k) ≤ (gmx (mN M) k) := fun z => c61 ((nI_leI (a := gcl (mN M) k) (b := gmx (mN M) k) (by omega) (by omega)).mpr z)
          have eg : gmx (mN M) (k + 1) = gcl (mN M) k := gmx_p (by omega)
          refine lv_iload hx hb dL_holds_463 (lv_at hl 1 rfl) ?_
          refine lv_goto (tgt := 470) hx hb dL_holds_465 (by decide) ?_
          rw [show nI (gcl (mN M) k) = nI (gmx (mN M) (k + 1)) from congrArg nI eg.symm]
          refine lv_istore (lv' := [(10, .int (nI (gmx (mN M) (k + 1)))), (9, .int (nI ((sm (gcl (mN M)) k) + (gcl (mN M) k)))), (14, .int (nI (gcl (mN M) k))), (13, .int (nI (gst (mN M) k))), (0, .ref b), (1, .int (nI (gm (mN M)))), (2, .int (nI (f_X7_gaps (mN M)))), (3, .int (nI (cO (mN M)))), (4, .int (nI (sm (lk (mN M)) (gm (mN M))))), (5, .int (nI (sm (isT (mN M) 0) (gm (mN M))))), (6, .int (nI (sm (nwK (mN M)) (gm (mN M))))), (7, .int (nI (cE (mN M)))), (8, .int 1), (11, .int (gend (mN M) k)), (12, .int (nI k))]) hx hb dL_holds_470 hl (by decide) rfl (fun ls hl => ?_)
          refine lv_iload hx hb dL_holds_472 (lv_at hl 3 rfl) ?_
          refine lv_iload hx hb dL_holds_474 (lv_at hl 13 rfl) ?_
          refine lv_icmp_le (tgt := 575) hx hb dL_holds_476 (by decide) (fun c79 => absurd c79 (Int32.not_le.mpr (gend_lt hk))) (fun _ => ?_)
          refine lv_iload hx hb dL_holds_479 (lv_at hl 2 rfl) ?_
          refine lv_if_le (tgt := 575) hx hb dL_holds_481 (by decide) (fun c80 => absurd c80 (nI_ge (a := 0) (b := gcl (mN M) k) (by omega) (by omega))) (fun _ => ?_)
          refine lv_iload hx hb dL_holds_484 (lv_at hl 3 rfl) ?_
          refine lv_iload hx hb dL_holds_486 (lv_at hl 2 rfl) ?_
          refine iadd_n (a := gst (mN M) k) (b := gcl (mN M) k) hx hb dL_holds_488 ?_
          refine lv_bipush (v := 80) hx hb dL_holds_489 (by decide) ?_
          refine lv_icmp_gt (tgt := 575) hx hb dL_holds_491 (by decide) (fun c81 => absurd c81 (nI_nlt (a := 80) (b := (gst (mN M) k) + (gcl (mN M) k)) (by omega) (by omega))) (fun _ => ?_)
          refine lv_iload hx hb dL_holds_494 (lv_at hl 3 rfl) ?_
          refine lv_if_eq (tgt := 514) hx hb dL_holds_496 (by decide) (fun c82 => ?_) (fun c82 => ?_)
          · have c82f : (gst (mN M) k : Nat) = 0 := nI_inj (a := gst (mN M) k) (b := 0) (by omega) (by omega) c82
            refine lv_iload hx hb dL_holds_514 (lv_at hl 3 rfl) ?_
            refine lv_iload hx hb dL_holds_516 (lv_at hl 2 rfl) ?_
            refine iadd_n (a := gst (mN M) k) (b := gcl (mN M) k) hx hb dL_holds_518 ?_
            refine lv_bipush (v := 80) hx hb dL_holds_519 (by decide) ?_
            refine lv_icmp_eq (tgt := 540) hx hb dL_holds_521 (by decide) (fun c83 => ?_) (fun c83 => ?_)
            · have c83f : ((gst (mN M) k) + (gcl (mN M) k) : Nat) = 80 := nI_inj (a := (gst (mN M) k) + (gcl (mN M) k)) (b := 80) (by omega) (by omega) c83
              refine lv_aload_n hx hb dL_holds_540 rfl (lv_at hl 4 rfl) ?_
              refine lv_iconst (v := 4) hx hb dL_holds_541 (by decide) ?_
              refine lv_iload hx hb dL_holds_542 (lv_at hl 3 rfl) ?_
              refine lv_iconst (v := 0) hx hb dL_holds_544 (by decide) ?_
              refine lv_iconst (v := 0) hx hb dL_holds_545 (by decide) ?_
              refine cl_o1 (rSP (A := blk b (b + 170)) (As := [.ref b, .int 4, .int (nI (gst (mN M) k)), .int 0, .int 0]) (rest := []) ⟨hx, hb, hml, hown, hts⟩ (c_call_4 l G b X (nI (gst (mN M) k)) 0 0 (-1) X hst ((rd_at RX (x := gst (mN M) k) (by omega)).trans (by rw [gap_free hk (Nat.le_refl _) (by omega)]))) (va_cwS 5 hts gL_holds_L_call rfl rfl rfl (by decide +kernel) ⟨(Nat.le_of_ble_eq_true rfl), (Nat.le_of_ble_eq_true rfl)⟩) hP hO (thr_at hTh hS (fun q h => h)) hN rfl hl.1 (Nat.le_of_ble_eq_true rfl) dL_holds_546 ⟨(by show 700 + 6 * k + 1 + 1 + 1 ≤ 2000; omega), (by show 4200 + 36 * k + 6 + 6 + 6 ≤ 12000; omega)⟩) hS (fun q h => h) (fun H locs hP hS => ?_)
              refine lv_iconst (v := -1) hx hb dL_holds_549 (by decide) ?_
              refine lv_icmp_ne (tgt := 575) hx hb dL_holds_550 (by decide) (fun c84 => absurd (by decide) c84) (fun _ => ?_)
              refine lv_aload_n hx hb dL_holds_553 rfl (lv_at hl 4 rfl) ?_
              refine lv_iconst (v := 4) hx hb dL_holds_554 (by decide) ?_
              refine lv_iload hx hb dL_holds_555 (lv_at hl 3 rfl) ?_
              refine lv_iload hx hb dL_holds_557 (lv_at hl 2 rfl) ?_
              refine iadd_n (a := gst (mN M) k) (b := gcl (mN M) k) hx hb dL_holds_559 ?_
              refine lv_iconst (v := 1) hx hb dL_holds_560 (by decide) ?_
              refine isub_n (a := (gst (mN M) k) + (gcl (mN M) k)) (b := 1) hx hb (by omega) dL_holds_561 ?_
              refine lv_iconst (v := 0) hx hb dL_holds_562 (by decide) ?_
              refine lv_iconst (v := 0) hx hb dL_holds_563 (by decide) ?_
              refine cl_o1 (rSP (A := blk b (b + 170)) (As := [.ref b, .int 4, .int (nI (((gst (mN M) k) + (gcl (mN M) k)) - 1)), .int 0, .int 0]) (rest := []) ⟨hx, hb, hml, hown, hts⟩ (c_call_4 l G b X (nI (((gst (mN M) k) + (gcl (mN M) k)) - 1)) 0 0 (-1) X hst ((rd_at RX (x := gst (mN M) k + gcl (mN M) k - 1) (by omega)).trans (by rw [gap_free hk (i := gst (mN M) k + gcl (mN M) k - 1) (by omega) (by omega)]))) (va_cwS 5 hts gL_holds_L_call rfl rfl rfl (by decide +kernel) ⟨(Nat.le_of_ble_eq_true rfl), (Nat.le_of_ble_eq_true rfl)⟩) hP hO (thr_at hTh hS (fun q h => h)) hN rfl hl.1 (Nat.le_of_ble_eq_true rfl) dL_holds_564 ⟨(by show 700 + 6 * k + 1 + 1 + 1 + 1 ≤ 2000; omega), (by show 4200 + 36 * k + 6 + 6 + 6 + 6 ≤ 12000; omega)⟩) hS (fun q h => h) (fun H locs hP hS => ?_)
              refine lv_iconst (v := -1) hx hb dL_holds_567 (by decide) ?_
              refine lv_icmp_ne (tgt := 575) hx hb dL_holds_568 (by decide) (fun c85 => absurd (by decide) c85) (fun _ => ?_)
              refine lv_iconst (v := 1) hx hb dL_holds_571 (by decide) ?_
              refine lv_goto (tgt := 576) hx hb dL_holds_572 (by decide) ?_
              refine lv_istore (lv' := [(8, .int 1), (10, .int (nI (gmx (mN M) (k + 1)))), (9, .int (nI ((sm (gcl (mN M)) k) + (gcl (mN M) k)))), (14, .int (nI (gcl (mN M) k))), (13, .int (nI (gst (mN M) k))), (0, .ref b), (1, .int (nI (gm (mN M)))), (2, .int (nI (f_X7_gaps (mN M)))), (3, .int (nI (cO (mN M)))), (4, .int (nI (sm (lk (mN M)) (gm (mN M))))), (5, .int (nI (sm (isT (mN M) 0) (gm (mN M))))), (6, .int (nI (sm (nwK (mN M)) (gm (mN M))))), (7, .int (nI (cE (mN M)))), (11, .int (gend (mN M) k)), (12, .int (nI k))]) hx hb dL_holds_576 hl (by decide) rfl (fun ls hl => ?_)
              refine lv_iload hx hb dL_holds_578 (lv_at hl 4 rfl) ?_
              refine lv_iload hx hb dL_holds_580 (lv_at hl 3 rfl) ?_
              refine iadd_n (a := gst (mN M) k) (b := gcl (mN M) k) hx hb dL_holds_582 ?_
              refine lv_istore (lv' := [(11, .int (nI ((gst (mN M) k) + (gcl (mN M) k)))), (8, .int 1), (10, .int (nI (gmx (mN M) (k + 1)))), (9, .int (nI ((sm (gcl (mN M)) k) + (gcl (mN M) k)))), (14, .int (nI (gcl (mN M) k))), (13, .int (nI (gst (mN M) k))), (0, .ref b), (1, .int (nI (gm (mN M)))), (2, .int (nI (f_X7_gaps (mN M)))), (3, .int (nI (cO (mN M)))), (4, .int (nI (sm (lk (mN M)) (gm (mN M))))), (5, .int (nI (sm (isT (mN M) 0) (gm (mN M))))), (6, .int (nI (sm (nwK (mN M)) (gm (mN M))))), (7, .int (nI (cE (mN M)))), (12, .int (nI k))]) hx hb dL_holds_583 hl (by decide) rfl (fun ls hl => ?_)
              refine lv_iinc (v := nI (k + 1)) (lv' := [(12, .int (nI (k + 1))), (11, .int (nI ((gst (mN M) k) + (gcl (mN M) k)))), (8, .int 1), (10, .int (nI (gmx (mN M) (k + 1)))), (9, .int (nI ((sm (gcl (mN M)) k) + (gcl (mN M) k)))), (14, .int (nI (gcl (mN M) k))), (13, .int (nI (gst (mN M) k))), (0, .ref b), (1, .int (nI (gm (mN M)))), (2, .int (nI (f_X7_gaps (mN M)))), (3, .int (nI (cO (mN M)))), (4, .int (nI (sm (lk (mN M)) (gm (mN M))))), (5, .int (nI (sm (isT (mN M) 0) (gm (mN M))))), (6, .int (nI (sm (nwK (mN M)) (gm (mN M))))), (7, .int (nI (cE (mN M))))]) hx hb dL_holds_585 hl (k := 14) rfl (nI_1 _) (by decide) rfl (fun ls hl => ?_)
              refine lv_goto (tgt := 416) hx hb dL_holds_588 (by decide) ?_
              refine W.widen (k := 700 + 6 * (k + 1)) (n := 4200 + 36 * (k + 1)) (by omega) (by omega) ?_
              exact ih416 (k + 1) (by omega) (by omega) _ _ _ hP hS (lv_sub hl [7, 8, 9, 10, 11, 12, 13, 14, 2, 4, 3, 1, 0] rfl)
            · have c83f : ¬ ((gst (mN M) k) + (gcl (mN M) k) : Nat) = 80 := fun z => c83 (congrArg nI z)
              refine lv_aload_n hx hb dL_holds_524 rfl (lv_at hl 4 rfl) ?_
              refine lv_iconst (v := 4) hx hb dL_holds_525 (by decide) ?_
              refine lv_iload hx hb dL_holds_526 (lv_at hl 3 rfl) ?_
              refine lv_iload hx hb dL_holds_528 (lv_at hl 2 rfl) ?_
              refine iadd_n (a := gst (mN M) k) (b := gcl (mN M) k) hx hb dL_holds_530 ?_
              refine lv_iconst (v := 0) hx hb dL_holds_531 (by decide) ?_
              refine lv_iconst (v := 0) hx hb dL_holds_532 (by decide) ?_
              refine cl_o1 (rSP (A := blk b (b + 170)) (As := [.ref b, .int 4, .int (nI ((gst (mN M) k) + (gcl (mN M) k))), .int 0, .int 0]) (rest := []) ⟨hx, hb, hml, hown, hts⟩ (c_call_4 l G b X (nI ((gst (mN M) k) + (gcl (mN M) k))) 0 0 ((mN M) (7 + (gst (mN M) k + gcl (mN M) k))) X hst (rd_at RX (x := gst (mN M) k + gcl (mN M) k) (by omega))) (va_cwS 5 hts gL_holds_L_call rfl rfl rfl (by decide +kernel) ⟨(Nat.le_of_ble_eq_true rfl), (Nat.le_of_ble_eq_true rfl)⟩) hP hO (thr_at hTh hS (fun q h => h)) hN rfl hl.1 (Nat.le_of_ble_eq_true rfl) dL_holds_533 ⟨(by show 700 + 6 * k + 1 + 1 + 1 ≤ 2000; omega), (by show 4200 + 36 * k + 6 + 6 + 6 ≤ 12000; omega)⟩) hS (fun q h => h) (fun H locs hP hS => ?_)
              refine lv_iconst (v := -1) hx hb dL_holds_536 (by decide) ?_
              refine lv_icmp_eq (tgt := 575) hx hb dL_holds_537 (by decide) (fun c86 => absurd c86 (gap_high hk (by omega))) (fun _ => ?_)
              refine lv_aload_n hx hb dL_holds_540 rfl (lv_at hl 4 rfl) ?_
              refine lv_iconst (v := 4) hx hb dL_holds_541 (by decide) ?_
              refine lv_iload hx hb dL_holds_542 (lv_at hl 3 rfl) ?_
              refine lv_iconst (v := 0) hx hb dL_holds_544 (by decide) ?_
              refine lv_iconst (v := 0) hx hb dL_holds_545 (by decide) ?_
              refine cl_o1 (rSP (A := blk b (b + 170)) (As := [.ref b, .int 4, .int (nI (gst (mN M) k)), .int 0, .int 0]) (rest := []) ⟨hx, hb, hml, hown, hts⟩ (c_call_4 l G b X (nI (gst (mN M) k)) 0 0 (-1) X hst ((rd_at RX (x := gst (mN M) k) (by omega)).trans (by rw [gap_free hk (Nat.le_refl _) (by omega)]))) (va_cwS 5 hts gL_holds_L_call rfl rfl rfl (by decide +kernel) ⟨(Nat.le_of_ble_eq_true rfl), (Nat.le_of_ble_eq_true rfl)⟩) hP hO (thr_at hTh hS (fun q h => h)) hN rfl hl.1 (Nat.le_of_ble_eq_true rfl) dL_holds_546 ⟨(by show 700 + 6 * k + 1 + 1 + 1 + 1 ≤ 2000; omega), (by show 4200 + 36 * k + 6 + 6 + 6 + 6 ≤ 12000; omega)⟩) hS (fun q h => h) (fun H locs hP hS => ?_)
              refine lv_iconst (v := -1) hx hb dL_holds_549 (by decide) ?_
              refine lv_icmp_ne (tgt := 575) hx hb dL_holds_550 (by decide) (fun c87 => absurd (by decide) c87) (fun _ => ?_)
              refine lv_aload_n hx hb dL_holds_553 rfl (lv_at hl 4 rfl) ?_
              refine lv_iconst (v := 4) hx hb dL_holds_554 (by decide) ?_
              refine lv_iload hx hb dL_holds_555 (lv_at hl 3 rfl) ?_
              refine lv_iload hx hb dL_holds_557 (lv_at hl 2 rfl) ?_
              refine iadd_n (a := gst (mN M) k) (b := gcl (mN M) k) hx hb dL_holds_559 ?_
              refine lv_iconst (v := 1) hx hb dL_holds_560 (by decide) ?_
              refine isub_n (a := (gst (mN M) k) + (gcl (mN M) k)) (b := 1) hx hb (by omega) dL_holds_561 ?_
              refine lv_iconst (v := 0) hx hb dL_holds_562 (by decide) ?_
              refine lv_iconst (v := 0) hx hb dL_holds_563 (by decide) ?_
              refine cl_o1 (rSP (A := blk b (b + 170)) (As := [.ref b, .int 4, .int (nI (((gst (mN M) k) + (gcl (mN M) k)) - 1)), .int 0, .int 0]) (rest := []) ⟨hx, hb, hml, hown, hts⟩ (c_call_4 l G b X (nI (((gst (mN M) k) + (gcl (mN M) k)) - 1)) 0 0 (-1) X hst ((rd_at RX (x := gst (mN M) k + gcl (mN M) k - 1) (by omega)).trans (by rw [gap_free hk (i := gst (mN M) k + gcl (mN M) k - 1) (by omega) (by omega)]))) (va_cwS 5 hts gL_holds_L_call rfl rfl rfl (by decide +kernel) ⟨(Nat.le_of_ble_eq_true rfl), (Nat.le_of_ble_eq_true rfl)⟩) hP hO (thr_at hTh hS (fun q h => h)) hN rfl hl.1 (Nat.le_of_ble_eq_true rfl) dL_holds_564 ⟨(by show 700 + 6 * k + 1 + 1 + 1 + 1 + 1 ≤ 2000; omega), (by show 4200 + 36 * k + 6 + 6 + 6 + 6 + 6 ≤ 12000; omega)⟩) hS (fun q h => h) (fun H locs hP hS => ?_)
              refine lv_iconst (v := -1) hx hb dL_holds_567 (by decide) ?_
              refine lv_icmp_ne (tgt := 575) hx hb dL_holds_568 (by decide) (fun c88 => absurd (by decide) c88) (fun _ => ?_)
              refine lv_iconst (v := 1) hx hb dL_holds_571 (by decide) ?_
              refine lv_goto (tgt := 576) hx hb dL_holds_572 (by decide) ?_
              refine lv_istore (lv' := [(8, .int 1), (10, .int (nI (gmx (mN M) (k + 1)))), (9, .int (nI ((sm (gcl (mN M)) k) + (gcl (mN M) k)))), (14, .int (nI (gcl (mN M) k))), (13, .int (nI (gst (mN M) k))), (0, .ref b), (1, .int (nI (gm (mN M)))), (2, .int (nI (f_X7_gaps (mN M)))), (3, .int (nI (cO (mN M)))), (4, .int (nI (sm (lk (mN M)) (gm (mN M))))), (5, .int (nI (sm (isT (mN M) 0) (gm (mN M))))), (6, .int (nI (sm (nwK (mN M)) (gm (mN M))))), (7, .int (nI (cE (mN M)))), (11, .int (gend (mN M) k)), (12, .int (nI k))]) hx hb dL_holds_576 hl (by decide) rfl (fun ls hl => ?_)
              refine lv_iload hx hb dL_holds_578 (lv_at hl 4 rfl) ?_
              refine lv_iload hx hb dL_holds_580 (lv_at hl 3 rfl) ?_
              refine iadd_n (a := gst (mN M) k) (b := gcl (mN M) k) hx hb dL_holds_582 ?_
              refine lv_istore (lv' := [(11, .int (nI ((gst (mN M) k) + (gcl (mN M) k)))), (8, .int 1), (10, .int (nI (gmx (mN M) (k + 1)))), (9, .int (nI ((sm (gcl (mN M)) k) + (gcl (mN M) k)))), (14, .int (nI (gcl (mN M) k))), (13, .int (nI (gst (mN M) k))), (0, .ref b), (1, .int (nI (gm (mN M)))), (2, .int (nI (f_X7_gaps (mN M)))), (3, .int (nI (cO (mN M)))), (4, .int (nI (sm (lk (mN M)) (gm (mN M))))), (5, .int (nI (sm (isT (mN M) 0) (gm (mN M))))), (6, .int (nI (sm (nwK (mN M)) (gm (mN M))))), (7, .int (nI (cE (mN M)))), (12, .int (nI k))]) hx hb dL_holds_583 hl (by decide) rfl (fun ls hl => ?_)
              refine lv_iinc (v := nI (k + 1)) (lv' := [(12, .int (nI (k + 1))), (11, .int (nI ((gst (mN M) k) + (gcl (mN M) k)))), (8, .int 1), (10, .int (nI (gmx (mN M) (k + 1)))), (9, .int (nI ((sm (gcl (mN M)) k) + (gcl (mN M) k)))), (14, .int (nI (gcl (mN M) k))), (13, .int (nI (gst (mN M) k))), (0, .ref b), (1, .int (nI (gm (mN M)))), (2, .int (nI (f_X7_gaps (mN M)))), (3, .int (nI (cO (mN M)))), (4, .int (nI (sm (lk (mN M)) (gm (mN M))))), (5, .int (nI (sm (isT (mN M) 0) (gm (mN M))))), (6, .int (nI (sm (nwK (mN M)) (gm (mN M))))), (7, .int (nI (cE (mN M))))]) hx hb dL_holds_585 hl (k := 14) rfl (nI_1 _) (by decide) rfl (fun ls hl => ?_)
              refine lv_goto (tgt := 416) hx hb dL_holds_588 (by decide) ?_
              refine W.widen (k := 700 + 6 * (k + 1)) (n := 4200 + 36 * (k + 1)) (by omega) (by omega) ?_
              exact ih416 (k + 1) (by omega) (by omega) _ _ _ hP hS (lv_sub hl [7, 8, 9, 10, 11, 12, 13, 14, 2, 4, 3, 1, 0] rfl)
          · have c82f : ¬ (gst (mN M) k : Nat) = 0 := fun z => c82 (congrArg nI z)
            refine lv_aload_n hx hb dL_holds_499 rfl (lv_at hl 4 rfl) ?_
            refine lv_iconst (v := 4) hx hb dL_holds_500 (by decide) ?_
            refine lv_iload hx hb dL_holds_501 (lv_at hl 3 rfl) ?_
            refine lv_iconst (v := 1) hx hb dL_holds_503 (by decide) ?_
            refine isub_n (a := gst (mN M) k) (b := 1) hx hb (by omega) dL_holds_504 ?_
            refine lv_iconst (v := 0) hx hb dL_holds_505 (by decide) ?_
            refine lv_iconst (v := 0) hx hb dL_holds_506 (by decide) ?_
            refine cl_o1 (rSP (A := blk b (b + 170)) (As := [.ref b, .int 4, .int (nI ((gst (mN M) k) - 1)), .int 0, .int 0]) (rest := []) ⟨hx, hb, hml, hown, hts⟩ (c_call_4 l G b X (nI ((gst (mN M) k) - 1)) 0 0 ((mN M) (7 + (gst (mN M) k - 1))) X hst (rd_at RX (x := gst (mN M) k - 1) (by omega))) (va_cwS 5 hts gL_holds_L_call rfl rfl rfl (by decide +kernel) ⟨(Nat.le_of_ble_eq_true rfl), (Nat.le_of_ble_eq_true rfl)⟩) hP hO (thr_at hTh hS (fun q h => h)) hN rfl hl.1 (Nat.le_of_ble_eq_true rfl) dL_holds_507 ⟨(by show 700 + 6 * k + 1 + 1 + 1 ≤ 2000; omega), (by show 4200 + 36 * k + 6 + 6 + 6 ≤ 12000; omega)⟩) hS (fun q h => h) (fun H locs hP hS => ?_)
            refine lv_iconst (v := -1) hx hb dL_holds_510 (by decide) ?_
            refine lv_icmp_eq (tgt := 575) hx hb dL_holds_511 (by decide) (fun c89 => absurd c89 (gap_low hk (by omega))) (fun _ => ?_)
            refine lv_iload hx hb dL_holds_514 (lv_at hl 3 rfl) ?_
            refine lv_iload hx hb dL_holds_516 (lv_at hl 2 rfl) ?_
            refine iadd_n (a := gst (mN M) k) (b := gcl (mN M) k) hx hb dL_holds_518 ?_
            refine lv_bipush (v := 80) hx hb dL_holds_519 (by decide) ?_
            refine lv_icmp_eq (tgt := 540) hx hb dL_holds_521 (by decide) (fun c90 => ?_) (fun c90 => ?_)
            · have c90f : ((gst (mN M) k) + (gcl (mN M) k) : Nat) = 80 := nI_inj (a := (gst (mN M) k) + (gcl (mN M) k)) (b := 80) (by omega) (by omega) c90
              refine lv_aload_n hx hb dL_holds_540 rfl (lv_at hl 4 rfl) ?_
              refine lv_iconst (v := 4) hx hb dL_holds_541 (by decide) ?_
              refine lv_iload hx hb dL_holds_542 (lv_at hl 3 rfl) ?_
              refine lv_iconst (v := 0) hx hb dL_holds_544 (by decide) ?_
              refine lv_iconst (v := 0) hx hb dL_holds_545 (by decide) ?_
              refine cl_o1 (rSP (A := blk b (b + 170)) (As := [.ref b, .int 4, .int (nI (gst (mN M) k)), .int 0, .int 0]) (rest := []) ⟨hx, hb, hml, hown, hts⟩ (c_call_4 l G b X (nI (gst (mN M) k)) 0 0 (-1) X hst ((rd_at RX (x := gst (mN M) k) (by omega)).trans (by rw [gap_free hk (Nat.le_refl _) (by omega)]))) (va_cwS 5 hts gL_holds_L_call rfl rfl rfl (by decide +kernel) ⟨(Nat.le_of_ble_eq_true rfl), (Nat.le_of_ble_eq_true rfl)⟩) hP hO (thr_at hTh hS (fun q h => h)) hN rfl hl.1 (Nat.le_of_ble_eq_true rfl) dL_holds_546 ⟨(by show 700 + 6 * k + 1 + 1 + 1 + 1 ≤ 2000; omega), (by show 4200 + 36 * k + 6 + 6 + 6 + 6 ≤ 12000; omega)⟩) hS (fun q h => h) (fun H locs hP hS => ?_)
              refine lv_iconst (v := -1) hx hb dL_holds_549 (by decide) ?_
              refine lv_icmp_ne (tgt := 575) hx hb dL_holds_550 (by decide) (fun c91 => absurd (by decide) c91) (fun _ => ?_)
              refine lv_aload_n hx hb dL_holds_553 rfl (lv_at hl 4 rfl) ?_
              refine lv_iconst (v := 4) hx hb dL_holds_554 (by decide) ?_
              refine lv_iload hx hb dL_holds_555 (lv_at hl 3 rfl) ?_
              refine lv_iload hx hb dL_holds_557 (lv_at hl 2 rfl) ?_
              refine iadd_n (a := gst (mN M) k) (b := gcl (mN M) k) hx hb dL_holds_559 ?_
              refine lv_iconst (v := 1) hx hb dL_holds_560 (by decide) ?_
              refine isub_n (a := (gst (mN M) k) + (gcl (mN M) k)) (b := 1) hx hb (by omega) dL_holds_561 ?_
              refine lv_iconst (v := 0) hx hb dL_holds_562 (by decide) ?_
              refine lv_iconst (v := 0) hx hb dL_holds_563 (by decide) ?_
              refine cl_o1 (rSP (A := blk b (b + 170)) (As := [.ref b, .int 4, .int (nI (((gst (mN M) k) + (gcl (mN M) k)) - 1)), .int 0, .int 0]) (rest := []) ⟨hx, hb, hml, hown, hts⟩ (c_call_4 l G b X (nI (((gst (mN M) k) + (gcl (mN M) k)) - 1)) 0 0 (-1) X hst ((rd_at RX (x := gst (mN M) k + gcl (mN M) k - 1) (by omega)).trans (by rw [gap_free hk (i := gst (mN M) k + gcl (mN M) k - 1) (by omega) (by omega)]))) (va_cwS 5 hts gL_holds_L_call rfl rfl rfl (by decide +kernel) ⟨(Nat.le_of_ble_eq_true rfl), (Nat.le_of_ble_eq_true rfl)⟩) hP hO (thr_at hTh hS (fun q h => h)) hN rfl hl.1 (Nat.le_of_ble_eq_true rfl) dL_holds_564 ⟨(by show 700 + 6 * k + 1 + 1 + 1 + 1 + 1 ≤ 2000; omega), (by show 4200 + 36 * k + 6 + 6 + 6 + 6 + 6 ≤ 12000; omega)⟩) hS (fun q h => h) (fun H locs hP hS => ?_)
              refine lv_iconst (v := -1) hx hb dL_holds_567 (by decide) ?_
              refine lv_icmp_ne (tgt := 575) hx hb dL_holds_568 (by decide) (fun c92 => absurd (by decide) c92) (fun _ => ?_)
              refine lv_iconst (v := 1) hx hb dL_holds_571 (by decide) ?_
              refine lv_goto (tgt := 576) hx hb dL_holds_572 (by decide) ?_
              refine lv_istore (lv' := [(8, .int 1), (10, .int (nI (gmx (mN M) (k + 1)))), (9, .int (nI ((sm (gcl (mN M)) k) + (gcl (mN M) k)))), (14, .int (nI (gcl (mN M) k))), (13, .int (nI (gst (mN M) k))), (0, .ref b), (1, .int (nI (gm (mN M)))), (2, .int (nI (f_X7_gaps (mN M)))), (3, .int (nI (cO (mN M)))), (4, .int (nI (sm (lk (mN M)) (gm (mN M))))), (5, .int (nI (sm (isT (mN M) 0) (gm (mN M))))), (6, .int (nI (sm (nwK (mN M)) (gm (mN M))))), (7, .int (nI (cE (mN M)))), (11, .int (gend (mN M) k)), (12, .int (nI k))]) hx hb dL_holds_576 hl (by decide) rfl (fun ls hl => ?_)
              refine lv_iload hx hb dL_holds_578 (lv_at hl 4 rfl) ?_
              refine lv_iload hx hb dL_holds_580 (lv_at hl 3 rfl) ?_
              refine iadd_n (a := gst (mN M) k) (b := gcl (mN M) k) hx hb dL_holds_582 ?_
              refine lv_istore (lv' := [(11, .int (nI ((gst (mN M) k) + (gcl (mN M) k)))), (8, .int 1), (10, .int (nI (gmx (mN M) (k + 1)))), (9, .int (nI ((sm (gcl (mN M)) k) + (gcl (mN M) k)))), (14, .int (nI (gcl (mN M) k))), (13, .int (nI (gst (mN M) k))), (0, .ref b), (1, .int (nI (gm (mN M)))), (2, .int (nI (f_X7_gaps (mN M)))), (3, .int (nI (cO (mN M)))), (4, .int (nI (sm (lk (mN M)) (gm (mN M))))), (5, .int (nI (sm (isT (mN M) 0) (gm (mN M))))), (6, .int (nI (sm (nwK (mN M)) (gm (mN M))))), (7, .int (nI (cE (mN M)))), (12, .int (nI k))]) hx hb dL_holds_583 hl (by decide) rfl (fun ls hl => ?_)
              refine lv_iinc (v := nI (k + 1)) (lv' := [(12, .int (nI (k + 1))), (11, .int (nI ((gst (mN M) k) + (gcl (mN M) k)))), (8, .int 1), (10, .int (nI (gmx (mN M) (k + 1)))), (9, .int (nI ((sm (gcl (mN M)) k) + (gcl (mN M) k)))), (14, .int (nI (gcl (mN M) k))), (13, .int (nI (gst (mN M) k))), (0, .ref b), (1, .int (nI (gm (mN M)))), (2, .int (nI (f_X7_gaps (mN M)))), (3, .int (nI (cO (mN M)))), (4, .int (nI (sm (lk (mN M)) (gm (mN M))))), (5, .int (nI (sm (isT (mN M) 0) (gm (mN M))))), (6, .int (nI (sm (nwK (mN M)) (gm (mN M))))), (7, .int (nI (cE (mN M))))]) hx hb dL_holds_585 hl (k := 14) rfl (nI_1 _) (by decide) rfl (fun ls hl => ?_)
              refine lv_goto (tgt := 416) hx hb dL_holds_588 (by decide) ?_
              refine W.widen (k := 700 + 6 * (k + 1)) (n := 4200 + 36 * (k + 1)) (by omega) (by omega) ?_
              exact ih416 (k + 1) (by omega) (by omega) _ _ _ hP hS (lv_sub hl [7, 8, 9, 10, 11, 12, 13, 14, 2, 4, 3, 1, 0] rfl)
            · have c90f : ¬ ((gst (mN M) k) + (gcl (mN M) k) : Nat) = 80 := fun z => c90 (congrArg nI z)
              refine lv_aload_n hx hb dL_holds_524 rfl (lv_at hl 4 rfl) ?_
              refine lv_iconst (v := 4) hx hb dL_holds_525 (by decide) ?_
              refine lv_iload hx hb dL_holds_526 (lv_at hl 3 rfl) ?_
              refine lv_iload hx hb dL_holds_528 (lv_at hl 2 rfl) ?_
              refine iadd_n (a := gst (mN M) k) (b := gcl (mN M) k) hx hb dL_holds_530 ?_
              refine lv_iconst (v := 0) hx hb dL_holds_531 (by decide) ?_
              refine lv_iconst (v := 0) hx hb dL_holds_532 (by decide) ?_
              refine cl_o1 (rSP (A := blk b (b + 170)) (As := [.ref b, .int 4, .int (nI ((gst (mN M) k) + (gcl (mN M) k))), .int 0, .int 0]) (rest := []) ⟨hx, hb, hml, hown, hts⟩ (c_call_4 l G b X (nI ((gst (mN M) k) + (gcl (mN M) k))) 0 0 ((mN M) (7 + (gst (mN M) k + gcl (mN M) k))) X hst (rd_at RX (x := gst (mN M) k + gcl (mN M) k) (by omega))) (va_cwS 5 hts gL_holds_L_call rfl rfl rfl (by decide +kernel) ⟨(Nat.le_of_ble_eq_true rfl), (Nat.le_of_ble_eq_true rfl)⟩) hP hO (thr_at hTh hS (fun q h => h)) hN rfl hl.1 (Nat.le_of_ble_eq_true rfl) dL_holds_533 ⟨(by show 700 + 6 * k + 1 + 1 + 1 + 1 ≤ 2000; omega), (by show 4200 + 36 * k + 6 + 6 + 6 + 6 ≤ 12000; omega)⟩) hS (fun q h => h) (fun H locs hP hS => ?_)
              refine lv_iconst (v := -1) hx hb dL_holds_536 (by decide) ?_
              refine lv_icmp_eq (tgt := 575) hx hb dL_holds_537 (by decide) (fun c93 => absurd c93 (gap_high hk (by omega))) (fun _ => ?_)
              refine lv_aload_n hx hb dL_holds_540 rfl (lv_at hl 4 rfl) ?_
              refine lv_iconst (v := 4) hx hb dL_holds_541 (by decide) ?_
              refine lv_iload hx hb dL_holds_542 (lv_at hl 3 rfl) ?_
              refine lv_iconst (v := 0) hx hb dL_holds_544 (by decide) ?_
              refine lv_iconst (v := 0) hx hb dL_holds_545 (by decide) ?_
              refine cl_o1 (rSP (A := blk b (b + 170)) (As := [.ref b, .int 4, .int (nI (gst (mN M) k)), .int 0, .int 0]) (rest := []) ⟨hx, hb, hml, hown, hts⟩ (c_call_4 l G b X (nI (gst (mN M) k)) 0 0 (-1) X hst ((rd_at RX (x := gst (mN M) k) (by omega)).trans (by rw [gap_free hk (Nat.le_refl _) (by omega)]))) (va_cwS 5 hts gL_holds_L_call rfl rfl rfl (by decide +kernel) ⟨(Nat.le_of_ble_eq_true rfl), (Nat.le_of_ble_eq_true rfl)⟩) hP hO (thr_at hTh hS (fun q h => h)) hN rfl hl.1 (Nat.le_of_ble_eq_true rfl) dL_holds_546 ⟨(by show 700 + 6 * k + 1 + 1 + 1 + 1 + 1 ≤ 2000; omega), (by show 4200 + 36 * k + 6 + 6 + 6 + 6 + 6 ≤ 12000; omega)⟩) hS (fun q h => h) (fun H locs hP hS => ?_)
              refine lv_iconst (v := -1) hx hb dL_holds_549 (by decide) ?_
              refine lv_icmp_ne (tgt := 575) hx hb dL_holds_550 (by decide) (fun c94 => absurd (by decide) c94) (fun _ => ?_)
              refine lv_aload_n hx hb dL_holds_553 rfl (lv_at hl 4 rfl) ?_
              refine lv_iconst (v := 4) hx hb dL_holds_554 (by decide) ?_
              refine lv_iload hx hb dL_holds_555 (lv_at hl 3 rfl) ?_
              refine lv_iload hx hb dL_holds_557 (lv_at hl 2 rfl) ?_
              refine iadd_n (a := gst (mN M) k) (b := gcl (mN M) k) hx hb dL_holds_559 ?_
              refine lv_iconst (v := 1) hx hb dL_holds_560 (by decide) ?_
              refine isub_n (a := (gst (mN M) k) + (gcl (mN M) k)) (b := 1) hx hb (by omega) dL_holds_561 ?_
              refine lv_iconst (v := 0) hx hb dL_holds_562 (by decide) ?_
              refine lv_iconst (v := 0) hx hb dL_holds_563 (by decide) ?_
              refine cl_o1 (rSP (A := blk b (b + 170)) (As := [.ref b, .int 4, .int (nI (((gst (mN M) k) + (gcl (mN M) k)) - 1)), .int 0, .int 0]) (rest := []) ⟨hx, hb, hml, hown, hts⟩ (c_call_4 l G b X (nI (((gst (mN M) k) + (gcl (mN M) k)) - 1)) 0 0 (-1) X hst ((rd_at RX (x := gst (mN M) k + gcl (mN M) k - 1) (by omega)).trans (by rw [gap_free hk (i := gst (mN M) k + gcl (mN M) k - 1) (by omega) (by omega)]))) (va_cwS 5 hts gL_holds_L_call rfl rfl rfl (by decide +kernel) ⟨(Nat.le_of_ble_eq_true rfl), (Nat.le_of_ble_eq_true rfl)⟩) hP hO (thr_at hTh hS (fun q h => h)) hN rfl hl.1 (Nat.le_of_ble_eq_true rfl) dL_holds_564 ⟨(by show 700 + 6 * k + 1 + 1 + 1 + 1 + 1 + 1 ≤ 2000; omega), (by show 4200 + 36 * k + 6 + 6 + 6 + 6 + 6 + 6 ≤ 12000; omega)⟩) hS (fun q h => h) (fun H locs hP hS => ?_)
              refine lv_iconst (v := -1) hx hb dL_holds_567 (by decide) ?_
              refine lv_icmp_ne (tgt := 575) hx hb dL_holds_568 (by decide) (fun c95 => absurd (by decide) c95) (fun _ => ?_)
              refine lv_iconst (v := 1) hx hb dL_holds_571 (by decide) ?_
              refine lv_goto (tgt := 576) hx hb dL_holds_572 (by decide) ?_
              refine lv_istore (lv' := [(8, .int 1), (10, .int (nI (gmx (mN M) (k + 1)))), (9, .int (nI ((sm (gcl (mN M)) k) + (gcl (mN M) k)))), (14, .int (nI (gcl (mN M) k))), (13, .int (nI (gst (mN M) k))), (0, .ref b), (1, .int (nI (gm (mN M)))), (2, .int (nI (f_X7_gaps (mN M)))), (3, .int (nI (cO (mN M)))), (4, .int (nI (sm (lk (mN M)) (gm (mN M))))), (5, .int (nI (sm (isT (mN M) 0) (gm (mN M))))), (6, .int (nI (sm (nwK (mN M)) (gm (mN M))))), (7, .int (nI (cE (mN M)))), (11, .int (gend (mN M) k)), (12, .int (nI k))]) hx hb dL_holds_576 hl (by decide) rfl (fun ls hl => ?_)
              refine lv_iload hx hb dL_holds_578 (lv_at hl 4 rfl) ?_
              refine lv_iload hx hb dL_holds_580 (lv_at hl 3 rfl) ?_
              refine iadd_n (a := gst (mN M) k) (b := gcl (mN M) k) hx hb dL_holds_582 ?_
              refine lv_istore (lv' := [(11, .int (nI ((gst (mN M) k) + (gcl (mN M) k)))), (8, .int 1), (10, .int (nI (gmx (mN M) (k + 1)))), (9, .int (nI ((sm (gcl (mN M)) k) + (gcl (mN M) k)))), (14, .int (nI (gcl (mN M) k))), (13, .int (nI (gst (mN M) k))), (0, .ref b), (1, .int (nI (gm (mN M)))), (2, .int (nI (f_X7_gaps (mN M)))), (3, .int (nI (cO (mN M)))), (4, .int (nI (sm (lk (mN M)) (gm (mN M))))), (5, .int (nI (sm (isT (mN M) 0) (gm (mN M))))), (6, .int (nI (sm (nwK (mN M)) (gm (mN M))))), (7, .int (nI (cE (mN M)))), (12, .int (nI k))]) hx hb dL_holds_583 hl (by decide) rfl (fun ls hl => ?_)
              refine lv_iinc (v := nI (k + 1)) (lv' := [(12, .int (nI (k + 1))), (11, .int (nI ((gst (mN M) k) + (gcl (mN M) k)))), (8, .int 1), (10, .int (nI (gmx (mN M) (k + 1)))), (9, .int (nI ((sm (gcl (mN M)) k) + (gcl (mN M) k)))), (14, .int (nI (gcl (mN M) k))), (13, .int (nI (gst (mN M) k))), (0, .ref b), (1, .int (nI (gm (mN M)))), (2, .int (nI (f_X7_gaps (mN M)))), (3, .int (nI (cO (mN M)))), (4, .int (nI (sm (lk (mN M)) (gm (mN M))))), (5, .int (nI (sm (isT (mN M) 0) (gm (mN M))))), (6, .int (nI (sm (nwK (mN M)) (gm (mN M))))), (7, .int (nI (cE (mN M))))]) hx hb dL_holds_585 hl (k := 14) rfl (nI_1 _) (by decide) rfl (fun ls hl => ?_)
              refine lv_goto (tgt := 416) hx hb dL_holds_588 (by decide) ?_
              refine W.widen (k := 700 + 6 * (k + 1)) (n := 4200 + 36 * (k + 1)) (by omega) (by omega) ?_
              exact ih416 (k + 1) (by omega) (by omega) _ _ _ hP hS (lv_sub hl [7, 8, 9, 10, 11, 12, 13, 14, 2, 4, 3, 1, 0] rfl)
  have cut113 : ∀ (n113 : Nat) (k : Nat), 40 < k + n113 → k ≤ gm (mN M) → ∀ (H : Heap) (locs : List Loc) (ls : Array Slot), Cb G b X H → va_S (blk b (b + 170)) s.heap H locs → lv_has ls 17 [(0, .ref b), (1, .int (nI (gm (mN M)))), (2, .int (nI (f_X7_gaps (mN M)))), (3, .int (nI (cO (mN M)))), (4, .int (nI (sm (lk (mN M)) k))), (5, .int (nI (sm (isT (mN M) 0) k))), (6, .int (nI (sm (nwK (mN M)) k))), (7, .int (nI (cE (mN M)))), (8, .int 1), (9, .int (nI k))] → W p l e (headSpec wsL_holds ({ frames := 12, cells := 2000, slots := 12000, locals := 210 } : Room)).room s m ([.ref b] : List Value).toArray below meth cd H locs (9 + 17 * k) (54 + 102 * k) (MQ below (QM (some (.int 1)) (fun H => ∃ T, Cb G b (yR X T) H) (blk b (b + 170))) ([.ref b] : List Value).toArray s 2000 12000 (blk b (b + 170))) (F0 m 113 ls []) := by
    intro n113
    induction n113 with
    | zero =>
      intro k hn113 hk0
      omega
    | succ n113 ih113 =>
      intro k hn113 hk0 H locs ls hP hS hl
      have cut356 : ∀ (n356 : Nat) (y : Nat), 80 < y + n356 → k < gm (mN M) → nwT (mN M) k = 0 → px (mN M) k ≤ y → y ≤ px (mN M) k + pj (mN M) k → ∀ (H : Heap) (locs : List Loc) (ls : Array Slot), Cb G b X H → va_S (blk b (b + 170)) s.heap H locs → lv_has ls 17 [(0, .ref b), (1, .int (nI (gm (mN M)))), (2, .int (nI (f_X7_gaps (mN M)))), (3, .int (nI (cO (mN M)))), (4, .int (nI (sm (lk (mN M)) k + pj (mN M) k))), (5, .int (nI (sm (isT (mN M) 0) k + 1))), (6, .int (nI (sm (nwK (mN M)) k + nwK (mN M) k))), (7, .int (nI (cE (mN M)))), (8, .int 1), (9, .int (nI k)), (11, .int (nI (px (mN M) k))), (12, .int (nI (pj (mN M) k))), (15, .int (nI y))] → W p l e (headSpec wsL_holds ({ frames := 12, cells := 2000, slots := 12000, locals := 210 } : Room)).room s m ([.ref b] : List Value).toArray below meth cd H locs (9 + 17 * k + 8 + (y - px (mN M) k)) (54 + 102 * k + 48 + 6 * (y - px (mN M) k)) (MQ below (QM (some (.int 1)) (fun H => ∃ T, Cb G b (yR X T) H) (blk b (b + 170))) ([.ref b] : List Value).toArray s 2000 12000 (blk b (b + 170))) (F0 m 356 ls []) := by
        intro n356
        induction n356 with
        | zero =>
          intro y hn356 hk hs hy1 hy2
          obtain ⟨-, -, -, -, -, -, -, zz⟩ := RX.nw.2.car hk
          obtain ⟨ep, -, hp8⟩ := RX.nw.2.ri.X hk (zz.mpr hs)
          omega
        | succ n356 ih356 =>
          intro y hn356 hk hs hy1 hy2 H locs ls hP hS hl
          obtain ⟨-, -, -, -, -, -, -, zz⟩ := RX.nw.2.car hk
          obtain ⟨ep, -, hp8⟩ := RX.nw.2.ri.X hk (zz.mpr hs)
          obtain ⟨hj0, hj8, hj2⟩ := RX.nw.2.ri.J hk
          refine lv_iload hx hb dL_holds_356 (lv_at hl 12 rfl) ?_
          refine lv_iload hx hb dL_holds_358 (lv_at hl 10 rfl) ?_
          refine lv_iload hx hb dL_holds_360 (lv_at hl 11 rfl) ?_
          refine iadd_n (a := px (mN M) k) (b := pj (mN M) k) hx hb dL_holds_362 ?_
          refine lv_icmp_ge (tgt := 398) hx hb dL_holds_363 (by decide) (fun c96 => ?_) (fun c96 => ?_)
          · have c96f : (px (mN M) k) + (pj (mN M) k) ≤ y := (nI_leI (a := (px (mN M) k) + (pj (mN M) k)) (b := y) (by omega) (by omega)).mp c96
            have e4 : sm (lk (mN M)) (k + 1) = sm (lk (mN M)) k + pj (mN M) k := by rw [sm_s, lk_p hs]
            have e5 : sm (isT (mN M) 0) (k + 1) = sm (isT (mN M) 0) k + 1 := by rw [sm_s, isT_p hs]
            have e6 : sm (nwK (mN M)) (k + 1) = sm (nwK (mN M)) k + nwK (mN M) k := rfl
            rw [← e4, ← e5, ← e6] at hl
            refine lv_iinc (v := nI (k + 1)) (lv' := [(9, .int (nI (k + 1))), (0, .ref b), (1, .int (nI (gm (mN M)))), (2, .int (nI (f_X7_gaps (mN M)))), (3, .int (nI (cO (mN M)))), (4, .int (nI (sm (lk (mN M)) (k + 1)))), (5, .int (nI (sm (isT (mN M) 0) (k + 1)))), (6, .int (nI (sm (nwK (mN M)) (k + 1)))), (7, .int (nI (cE (mN M)))), (8, .int 1), (11, .int (nI (px (mN M) k))), (12, .int (nI (pj (mN M) k))), (15, .int (nI y))]) hx hb dL_holds_398 hl (k := 9) rfl (nI_1 _) (by decide) rfl (fun ls hl => ?_)
            refine lv_goto (tgt := 113) hx hb dL_holds_401 (by decide) ?_
            refine W.widen (k := 9 + 17 * (k + 1)) (n := 54 + 102 * (k + 1)) (by omega) (by omega) ?_
            exact ih113 (k + 1) (by omega) (by omega) _ _ _ hP hS (lv_sub hl [1, 2, 3, 4, 5, 6, 7, 8, 9, 0] rfl)
          · have c96f : ¬ ((px (mN M) k) + (pj (mN M) k)) ≤ y := fun z => c96 ((nI_leI (a := (px (mN M) k) + (pj (mN M) k)) (b := y) (by omega) (by omega)).mpr z)
            refine lv_iload hx hb dL_holds_366 (lv_at hl 8 rfl) ?_
            refine lv_if_eq (tgt := 398) hx hb dL_holds_368 (by decide) (fun c97 => absurd c97 (by decide)) (fun _ => ?_)
            refine lv_aload_n hx hb dL_holds_371 rfl (lv_at hl 0 rfl) ?_
            refine lv_iconst (v := 4) hx hb dL_holds_372 (by decide) ?_
            refine lv_iload hx hb dL_holds_373 (lv_at hl 12 rfl) ?_
            refine lv_iconst (v := 0) hx hb dL_holds_375 (by decide) ?_
            refine lv_iconst (v := 0) hx hb dL_holds_376 (by decide) ?_
            refine cl_o1 (rSP (A := blk b (b + 170)) (As := [.ref b, .int 4, .int (nI y), .int 0, .int 0]) (rest := []) ⟨hx, hb, hml, hown, hts⟩ (c_call_4 l G b X (nI y) 0 0 (nI k) X hst ((rd_at RX (x := y) (by omega)).trans (by rw [RX.nw.2.pc k hk (zz.mpr hs) y ⟨by omega, by omega⟩]))) (va_cwS 5 hts gL_holds_L_call rfl rfl rfl (by decide +kernel) ⟨(Nat.le_of_ble_eq_true rfl), (Nat.le_of_ble_eq_true rfl)⟩) hP hO (thr_at hTh hS (fun q h => h)) hN rfl hl.1 (Nat.le_of_ble_eq_true rfl) dL_holds_377 ⟨(by show 9 + 17 * k + 8 + (y - px (mN M) k) + 1 ≤ 2000; omega), (by show 54 + 102 * k + 48 + 6 * (y - px (mN M) k) + 6 ≤ 12000; omega)⟩) hS (fun q h => h) (fun H locs hP hS => ?_)
            refine lv_iload hx hb dL_holds_380 (lv_at hl 9 rfl) ?_
            refine lv_icmp_ne (tgt := 389) hx hb dL_holds_382 (by decide) (fun c98 => absurd (congrArg nI (show (k : Nat) = k by omega)) c98) (fun _ => ?_)
            refine lv_iconst (v := 1) hx hb dL_holds_385 (by decide) ?_
            refine lv_goto (tgt := 390) hx hb dL_holds_386 (by decide) ?_
            refine lv_istore (lv' := [(8, .int 1), (0, .ref b), (1, .int (nI (gm (mN M)))), (2, .int (nI (f_X7_gaps (mN M)))), (3, .int (nI (cO (mN M)))), (4, .int (nI (sm (lk (mN M)) k + pj (mN M) k))), (5, .int (nI (sm (isT (mN M) 0) k + 1))), (6, .int (nI (sm (nwK (mN M)) k + nwK (mN M) k))), (7, .int (nI (cE (mN M)))), (9, .int (nI k)), (11, .int (nI (px (mN M) k))), (12, .int (nI (pj (mN M) k))), (15, .int (nI y))]) hx hb dL_holds_390 hl (by decide) rfl (fun ls hl => ?_)
            refine lv_iinc (v := nI (y + 1)) (lv' := [(15, .int (nI (y + 1))), (8, .int 1), (0, .ref b), (1, .int (nI (gm (mN M)))), (2, .int (nI (f_X7_gaps (mN M)))), (3, .int (nI (cO (mN M)))), (4, .int (nI (sm (lk (mN M)) k + pj (mN M) k))), (5, .int (nI (sm (isT (mN M) 0) k + 1))), (6, .int (nI (sm (nwK (mN M)) k + nwK (mN M) k))), (7, .int (nI (cE (mN M)))), (9, .int (nI k)), (11, .int (nI (px (mN M) k))), (12, .int (nI (pj (mN M) k)))]) hx hb dL_holds_392 hl (k := 12) rfl (nI_1 _) (by decide) rfl (fun ls hl => ?_)
            refine lv_goto (tgt := 356) hx hb dL_holds_395 (by decide) ?_
            refine W.widen (k := 9 + 17 * k + 8 + ((y + 1) - px (mN M) k)) (n := 54 + 102 * k + 48 + 6 * ((y + 1) - px (mN M) k)) (by omega) (by omega) ?_
            exact ih356 (y + 1) (by omega) hk hs (by omega) (by omega) _ _ _ hP hS (lv_sub hl [2, 3, 4, 5, 6, 7, 8, 9, 1, 10, 11, 12, 0] rfl)
      refine lv_iload hx hb dL_holds_113 (lv_at hl 9 rfl) ?_
      refine lv_iload_n hx hb dL_holds_115 rfl (lv_at hl 1 rfl) ?_
      refine lv_icmp_ge (tgt := 404) hx hb dL_holds_116 (by decide) (fun c99 => ?_) (fun c99 => ?_)
      · have c99f : gm (mN M) ≤ k := (nI_leI (a := gm (mN M)) (b := k) (by omega) (by omega)).mp c99
        have ek : k = gm (mN M) := by omega
        rw [ek] at hl
        refine lv_iconst (v := 0) hx hb dL_holds_404 (by decide) ?_
        refine lv_istore (lv' := [(9, .int 0), (0, .ref b), (1, .int (nI (gm (mN M)))), (2, .int (nI (f_X7_gaps (mN M)))), (3, .int (nI (cO (mN M)))), (4, .int (nI (sm (lk (mN M)) (gm (mN M))))), (5, .int (nI (sm (isT (mN M) 0) (gm (mN M))))), (6, .int (nI (sm (nwK (mN M)) (gm (mN M))))), (7, .int (nI (cE (mN M)))), (8, .int 1)]) hx hb dL_holds_405 hl (by decide) rfl (fun ls hl => ?_)
        refine lv_iconst (v := 0) hx hb dL_holds_407 (by decide) ?_
        refine lv_istore (lv' := [(10, .int 0), (9, .int 0), (0, .ref b), (1, .int (nI (gm (mN M)))), (2, .int (nI (f_X7_gaps (mN M)))), (3, .int (nI (cO (mN M)))), (4, .int (nI (sm (lk (mN M)) (gm (mN M))))), (5, .int (nI (sm (isT (mN M) 0) (gm (mN M))))), (6, .int (nI (sm (nwK (mN M)) (gm (mN M))))), (7, .int (nI (cE (mN M)))), (8, .int 1)]) hx hb dL_holds_408 hl (by decide) rfl (fun ls hl => ?_)
        refine lv_iconst (v := -1) hx hb dL_holds_410 (by decide) ?_
        refine lv_istore (lv' := [(11, .int (-1)), (10, .int 0), (9, .int 0), (0, .ref b), (1, .int (nI (gm (mN M)))), (2, .int (nI (f_X7_gaps (mN M)))), (3, .int (nI (cO (mN M)))), (4, .int (nI (sm (lk (mN M)) (gm (mN M))))), (5, .int (nI (sm (isT (mN M) 0) (gm (mN M))))), (6, .int (nI (sm (nwK (mN M)) (gm (mN M))))), (7, .int (nI (cE (mN M)))), (8, .int 1)]) hx hb dL_holds_411 hl (by decide) rfl (fun ls hl => ?_)
        refine lv_iconst (v := 0) hx hb dL_holds_413 (by decide) ?_
        refine lv_istore (lv' := [(12, .int 0), (11, .int (-1)), (10, .int 0), (9, .int 0), (0, .ref b), (1, .int (nI (gm (mN M)))), (2, .int (nI (f_X7_gaps (mN M)))), (3, .int (nI (cO (mN M)))), (4, .int (nI (sm (lk (mN M)) (gm (mN M))))), (5, .int (nI (sm (isT (mN M) 0) (gm (mN M))))), (6, .int (nI (sm (nwK (mN M)) (gm (mN M))))), (7, .int (nI (cE (mN M)))), (8, .int 1)]) hx hb dL_holds_414 hl (by decide) rfl (fun ls hl => ?_)
        refine W.widen (k := 700 + 6 * 0) (n := 4200 + 36 * 0) (by omega) (by omega) ?_
        exact cut416 (80 + 1) 0 (by omega) (by omega) _ _ _ hP hS (lv_sub hl [4, 5, 6, 7, 8, 9, 10, 11, 12, 3, 2, 1, 0] rfl)
      · have c99f : ¬ (gm (mN M)) ≤ k := fun z => c99 ((nI_leI (a := gm (mN M)) (b := k) (by omega) (by omega)).mpr z)
        have hk : k < gm (mN M) := by omega
        obtain ⟨⟨-, hy1, hy2⟩, ⟨-, hs5⟩, ⟨-, hk4⟩, ⟨-, hr30⟩, hpk, -, h3, zz⟩ := RX.nw.2.car hk
        obtain ⟨hj0, hj8, hj2⟩ := RX.nw.2.ri.J hk
        refine lv_iload hx hb dL_holds_119 (lv_at hl 8 rfl) ?_
        refine lv_if_eq (tgt := 404) hx hb dL_holds_121 (by decide) (fun c100 => absurd c100 (by decide)) (fun _ => ?_)
        refine lv_aload_n hx hb dL_holds_124 rfl (lv_at hl 0 rfl) ?_
        refine lv_iconst (v := 3) hx hb dL_holds_125 (by decide) ?_
        refine lv_iload hx hb dL_holds_126 (lv_at hl 9 rfl) ?_
        refine lv_iconst (v := 2) hx hb dL_holds_128 (by decide) ?_
        refine lv_iconst (v := 0) hx hb dL_holds_129 (by decide) ?_
        refine cl_o1 (rSP (A := blk b (b + 170)) (As := [.ref b, .int 3, .int (nI k), .int 2, .int 0]) (rest := []) ⟨hx, hb, hml, hown, hts⟩ (c_call_3 l G b X (nI k) 2 0 (nI (nwT (mN M) k)) X hst (rd_car2 RX hk)) (va_cwS 5 hts gL_holds_L_call rfl rfl rfl (by decide +kernel) ⟨(Nat.le_of_ble_eq_true rfl), (Nat.le_of_ble_eq_true rfl)⟩) hP hO (thr_at hTh hS (fun q h => h)) hN rfl hl.1 (Nat.le_of_ble_eq_true rfl) dL_holds_130 ⟨(by show 9 + 17 * k + 1 ≤ 2000; omega), (by show 54 + 102 * k + 6 ≤ 12000; omega)⟩) hS (fun q h => h) (fun H locs hP hS => ?_)
        refine lv_istore (lv' := [(10, .int (nI (nwT (mN M) k))), (0, .ref b), (1, .int (nI (gm (mN M)))), (2, .int (nI (f_X7_gaps (mN M)))), (3, .int (nI (cO (mN M)))), (4, .int (nI (sm (lk (mN M)) k))), (5, .int (nI (sm (isT (mN M) 0) k))), (6, .int (nI (sm (nwK (mN M)) k))), (7, .int (nI (cE (mN M)))), (8, .int 1), (9, .int (nI k))]) hx hb dL_holds_133 hl (by decide) rfl (fun ls hl => ?_)
        refine lv_aload_n hx hb dL_holds_135 rfl (lv_at hl 1 rfl) ?_
        refine lv_iconst (v := 3) hx hb dL_holds_136 (by decide) ?_
        refine lv_iload hx hb dL_holds_137 (lv_at hl 10 rfl) ?_
        refine lv_iconst (v := 3) hx hb dL_holds_139 (by decide) ?_
        refine lv_iconst (v := 0) hx hb dL_holds_140 (by decide) ?_
        refine cl_o1 (rSP (A := blk b (b + 170)) (As := [.ref b, .int 3, .int (nI k), .int 3, .int 0]) (rest := []) ⟨hx, hb, hml, hown, hts⟩ (c_call_3 l G b X (nI k) 3 0 (f_X7_of (mN M) k 3) X hst (rd_car3 RX hk)) (va_cwS 5 hts gL_holds_L_call rfl rfl rfl (by decide +kernel) ⟨(Nat.le_of_ble_eq_true rfl), (Nat.le_of_ble_eq_true rfl)⟩) hP hO (thr_at hTh hS (fun q h => h)) hN rfl hl.1 (Nat.le_of_ble_eq_true rfl) dL_holds_141 ⟨(by show 9 + 17 * k + 1 + 1 ≤ 2000; omega), (by show 54 + 102 * k + 6 + 6 ≤ 12000; omega)⟩) hS (fun q h => h) (fun H locs hP hS => ?_)
        refine lv_istore (lv' := [(11, .int (f_X7_of (mN M) k 3)), (10, .int (nI (nwT (mN M) k))), (0, .ref b), (1, .int (nI (gm (mN M)))), (2, .int (nI (f_X7_gaps (mN M)))), (3, .int (nI (cO (mN M)))), (4, .int (nI (sm (lk (mN M)) k))), (5, .int (nI (sm (isT (mN M) 0) k))), (6, .int (nI (sm (nwK (mN M)) k))), (7, .int (nI (cE (mN M)))), (8, .int 1), (9, .int (nI k))]) hx hb dL_holds_144 hl (by decide) rfl (fun ls hl => ?_)
        refine lv_aload_n hx hb dL_holds_146 rfl (lv_at hl 2 rfl) ?_
        refine lv_iconst (v := 3) hx hb dL_holds_147 (by decide) ?_
        refine lv_iload hx hb dL_holds_148 (lv_at hl 11 rfl) ?_
        refine lv_iconst (v := 0) hx hb dL_holds_150 (by decide) ?_
        refine lv_iconst (v := 0) hx hb dL_holds_151 (by decide) ?_
        refine cl_o1 (rSP (A := blk b (b + 170)) (As := [.ref b, .int 3, .int (nI k), .int 0, .int 0]) (rest := []) ⟨hx, hb, hml, hown, hts⟩ (c_call_3 l G b X (nI k) 0 0 (nI (pj (mN M) k)) X hst (rd_car0 RX hk)) (va_cwS 5 hts gL_holds_L_call rfl rfl rfl (by decide +kernel) ⟨(Nat.le_of_ble_eq_true rfl), (Nat.le_of_ble_eq_true rfl)⟩) hP hO (thr_at hTh hS (fun q h => h)) hN rfl hl.1 (Nat.le_of_ble_eq_true rfl) dL_holds_152 ⟨(by show 9 + 17 * k + 1 + 1 + 1 ≤ 2000; omega), (by show 54 + 102 * k + 6 + 6 + 6 ≤ 12000; omega)⟩) hS (fun q h => h) (fun H locs hP hS => ?_)
        refine lv_istore (lv' := [(12, .int (nI (pj (mN M) k))), (11, .int (f_X7_of (mN M) k 3)), (10, .int (nI (nwT (mN M) k))), (0, .ref b), (1, .int (nI (gm (mN M)))), (2, .int (nI (f_X7_gaps (mN M)))), (3, .int (nI (cO (mN M)))), (4, .int (nI (sm (lk (mN M)) k))), (5, .int (nI (sm (isT (mN M) 0) k))), (6, .int (nI (sm (nwK (mN M)) k))), (7, .int (nI (cE (mN M)))), (8, .int 1), (9, .int (nI k))]) hx hb dL_holds_155 hl (by decide) rfl (fun ls hl => ?_)
        refine lv_aload_n hx hb dL_holds_157 rfl (lv_at hl 3 rfl) ?_
        refine lv_iconst (v := 3) hx hb dL_holds_158 (by decide) ?_
        refine lv_iload hx hb dL_holds_159 (lv_at hl 12 rfl) ?_
        refine lv_iconst (v := 4) hx hb dL_holds_161 (by decide) ?_
        refine lv_iconst (v := 0) hx hb dL_holds_162 (by decide) ?_
        refine cl_o1 (rSP (A := blk b (b + 170)) (As := [.ref b, .int 3, .int (nI k), .int 4, .int 0]) (rest := []) ⟨hx, hb, hml, hown, hts⟩ (c_call_3 l G b X (nI k) 4 0 (nI (nwK (mN M) k)) X hst (rd_car4 RX hk)) (va_cwS 5 hts gL_holds_L_call rfl rfl rfl (by decide +kernel) ⟨(Nat.le_of_ble_eq_true rfl), (Nat.le_of_ble_eq_true rfl)⟩) hP hO (thr_at hTh hS (fun q h => h)) hN rfl hl.1 (Nat.le_of_ble_eq_true rfl) dL_holds_163 ⟨(by show 9 + 17 * k + 1 + 1 + 1 + 1 ≤ 2000; omega), (by show 54 + 102 * k + 6 + 6 + 6 + 6 ≤ 12000; omega)⟩) hS (fun q h => h) (fun H locs hP hS => ?_)
        refine lv_istore (lv' := [(13, .int (nI (nwK (mN M) k))), (12, .int (nI (pj (mN M) k))), (11, .int (f_X7_of (mN M) k 3)), (10, .int (nI (nwT (mN M) k))), (0, .ref b), (1, .int (nI (gm (mN M)))), (2, .int (nI (f_X7_gaps (mN M)))), (3, .int (nI (cO (mN M)))), (4, .int (nI (sm (lk (mN M)) k))), (5, .int (nI (sm (isT (mN M) 0) k))), (6, .int (nI (sm (nwK (mN M)) k))), (7, .int (nI (cE (mN M)))), (8, .int 1), (9, .int (nI k))]) hx hb dL_holds_166 hl (by decide) rfl (fun ls hl => ?_)
        refine lv_aload_n hx hb dL_holds_168 rfl (lv_at hl 4 rfl) ?_
        refine lv_iconst (v := 3) hx hb dL_holds_169 (by decide) ?_
        refine lv_iload hx hb dL_holds_170 (lv_at hl 13 rfl) ?_
        refine lv_bipush (v := 6) hx hb dL_holds_172 (by decide) ?_
        refine lv_iconst (v := 0) hx hb dL_holds_174 (by decide) ?_
        refine cl_o1 (rSP (A := blk b (b + 170)) (As := [.ref b, .int 3, .int (nI k), .int 6, .int 0]) (rest := []) ⟨hx, hb, hml, hown, hts⟩ (c_call_3 l G b X (nI k) 6 0 (lf (mN M) k) X hst (rd_car6 RX hk)) (va_cwS 5 hts gL_holds_L_call rfl rfl rfl (by decide +kernel) ⟨(Nat.le_of_ble_eq_true rfl), (Nat.le_of_ble_eq_true rfl)⟩) hP hO (thr_at hTh hS (fun q h => h)) hN rfl hl.1 (Nat.le_of_ble_eq_true rfl) dL_holds_175 ⟨(by show 9 + 17 * k + 1 + 1 + 1 + 1 + 1 ≤ 2000; omega), (by show 54 + 102 * k + 6 + 6 + 6 + 6 + 6 ≤ 12000; omega)⟩) hS (fun q h => h) (fun H locs hP hS => ?_)
        refine lv_istore (lv' := [(14, .int (lf (mN M) k)), (13, .int (nI (nwK (mN M) k))), (12, .int (nI (pj (mN M) k))), (11, .int (f_X7_of (mN M) k 3)), (10, .int (nI (nwT (mN M) k))), (0, .ref b), (1, .int (nI (gm (mN M)))), (2, .int (nI (f_X7_gaps (mN M)))), (3, .int (nI (cO (mN M)))), (4, .int (nI (sm (lk (mN M)) k))), (5, .int (nI (sm (isT (mN M) 0) k))), (6, .int (nI (sm (nwK (mN M)) k))), (7, .int (nI (cE (mN M)))), (8, .int 1), (9, .int (nI k))]) hx hb dL_holds_178 hl (by decide) rfl (fun ls hl => ?_)
        refine lv_iload hx hb dL_holds_180 (lv_at hl 11 rfl) ?_
        refine lv_iload hx hb dL_holds_182 (lv_at hl 1 rfl) ?_
        refine iadd_n (a := sm (nwK (mN M)) k) (b := nwK (mN M) k) hx hb dL_holds_184 ?_
        refine lv_istore (lv' := [(6, .int (nI ((sm (nwK (mN M)) k) + (nwK (mN M) k)))), (14, .int (lf (mN M) k)), (13, .int (nI (nwK (mN M) k))), (12, .int (nI (pj (mN M) k))), (11, .int (f_X7_of (mN M) k 3)), (10, .int (nI (nwT (mN M) k))), (0, .ref b), (1, .int (nI (gm (mN M)))), (2, .int (nI (f_X7_gaps (mN M)))), (3, .int (nI (cO (mN M)))), (4, .int (nI (sm (lk (mN M)) k))), (5, .int (nI (sm (isT (mN M) 0) k))), (7, .int (nI (cE (mN M)))), (8, .int 1), (9, .int (nI k))]) hx hb dL_holds_185 hl (by decide) rfl (fun ls hl => ?_)
        refine lv_iload hx hb dL_holds_187 (lv_at hl 5 rfl) ?_
        refine lv_if_lt (tgt := 334) hx hb dL_holds_189 (by decide) (fun c101 => absurd c101 (nI_nlt (a := nwT (mN M) k) (b := 0) (by omega) (by omega))) (fun _ => ?_)
        refine lv_iload hx hb dL_holds_192 (lv_at hl 5 rfl) ?_
        refine lv_iconst (v := 5) hx hb dL_holds_194 (by decide) ?_
        refine lv_icmp_ge (tgt := 334) hx hb dL_holds_195 (by decide) (fun c102 => absurd c102 (nI_ge (a := nwT (mN M) k) (b := 5) (by omega) (by omega))) (fun _ => ?_)
        refine lv_iload hx hb dL_holds_198 (lv_at hl 4 rfl) ?_
        refine lv_iconst (v := -1) hx hb dL_holds_200 (by decide) ?_
        refine lv_icmp_ne (tgt := 208) hx hb dL_holds_201 (by decide) (fun c103 => ?_) (fun c103 => ?_)
        · have hs : nwT (mN M) k = 0 := zz.mp (at_pk RX.nw.2 hk c103)
          obtain ⟨ep, -, hp8⟩ := RX.nw.2.ri.X hk (zz.mpr hs)
          have hlt := hpk hs
          rw [ep, lf_p hs] at hl
          refine lv_iconst (v := 0) hx hb dL_holds_208 (by decide) ?_
          refine lv_iload hx hb dL_holds_209 (lv_at hl 5 rfl) ?_
          refine lv_if_eq (tgt := 218) hx hb dL_holds_211 (by decide) (fun _ => ?_) (fun c104 => absurd (congrArg nI (show (nwT (mN M) k : Nat) = 0 by omega)) c104)
          refine lv_iconst (v := 0) hx hb dL_holds_218 (by decide) ?_
          refine lv_icmp_ne (tgt := 334) hx hb dL_holds_219 (by decide) (fun c105 => absurd (by decide) c105) (fun _ => ?_)
          refine lv_iload hx hb dL_holds_222 (lv_at hl 1 rfl) ?_
          refine lv_iconst (v := -1) hx hb dL_holds_224 (by decide) ?_
          refine lv_icmp_ne (tgt := 232) hx hb dL_holds_225 (by decide) (fun _ => ?_) (fun c106 => absurd c106 (nI_m1 (a := nwY (mN M) k - nwK (mN M) k) (by omega)))
          refine lv_iconst (v := 0) hx hb dL_holds_232 (by decide) ?_
          refine lv_iload hx hb dL_holds_233 (lv_at hl 5 rfl) ?_
          refine lv_if_eq (tgt := 242) hx hb dL_holds_235 (by decide) (fun _ => ?_) (fun c107 => absurd (congrArg nI (show (nwT (mN M) k : Nat) = 0 by omega)) c107)
          refine lv_iconst (v := 0) hx hb dL_holds_242 (by decide) ?_
          refine lv_icmp_ne (tgt := 334) hx hb dL_holds_243 (by decide) (fun c108 => absurd (by decide) c108) (fun _ => ?_)
          refine lv_iload hx hb dL_holds_246 (lv_at hl 2 rfl) ?_
          refine lv_aload_n hx hb dL_holds_248 rfl (lv_at hl 6 rfl) ?_
          refine lv_iconst (v := 3) hx hb dL_holds_249 (by decide) ?_
          refine lv_iload hx hb dL_holds_250 (lv_at hl 14 rfl) ?_
          refine lv_iconst (v := 1) hx hb dL_holds_252 (by decide) ?_
          refine lv_iconst (v := 0) hx hb dL_holds_253 (by decide) ?_
          refine cl_o1 (rSP (A := blk b (b + 170)) (As := [.ref b, .int 3, .int (nI k), .int 1, .int 0]) (rest := [.int (nI (nwK (mN M) k))]) ⟨hx, hb, hml, hown, hts⟩ (c_call_3 l G b X (nI k) 1 0 (nI (nwY (mN M) k)) X hst (rd_car1 RX hk)) (va_cwS 5 hts gL_holds_L_call rfl rfl rfl (by decide +kernel) ⟨(Nat.le_of_ble_eq_true rfl), (Nat.le_of_ble_eq_true rfl)⟩) hP hO (thr_at hTh hS (fun q h => h)) hN rfl hl.1 (Nat.le_of_ble_eq_true rfl) dL_holds_254 ⟨(by show 9 + 17 * k + 1 + 1 + 1 + 1 + 1 + 1 ≤ 2000; omega), (by show 54 + 102 * k + 6 + 6 + 6 + 6 + 6 + 6 ≤ 12000; omega)⟩) hS (fun q h => h) (fun H locs hP hS => ?_)
          refine lv_icmp_gt (tgt := 334) hx hb dL_holds_257 (by decide) (fun c109 => absurd c109 (nI_nlt (a := nwY (mN M) k) (b := nwK (mN M) k) (by omega) (by omega))) (fun _ => ?_)
          refine lv_iload hx hb dL_holds_260 (lv_at hl 5 rfl) ?_
          refine lv_if_ne (tgt := 287) hx hb dL_holds_262 (by decide) (fun c110 => absurd (congrArg nI (show (nwT (mN M) k : Nat) = 0 by omega)) c110) (fun _ => ?_)
          refine lv_iload hx hb dL_holds_265 (lv_at hl 1 rfl) ?_
          refine lv_if_le (tgt := 334) hx hb dL_holds_267 (by decide) (fun c111 => absurd c111 (nI_ge (a := 0) (b := nwY (mN M) k - nwK (mN M) k) (by omega) (by omega))) (fun _ => ?_)
          refine lv_iload hx hb dL_holds_270 (lv_at hl 2 rfl) ?_
          refine lv_iload hx hb dL_holds_272 (lv_at hl 1 rfl) ?_
          refine iadd_n (a := nwK (mN M) k) (b := nwY (mN M) k - nwK (mN M) k) hx hb dL_holds_274 ?_
          refine lv_aload_n hx hb dL_holds_275 rfl (lv_at hl 6 rfl) ?_
          refine lv_iconst (v := 3) hx hb dL_holds_276 (by decide) ?_
          refine lv_iload hx hb dL_holds_277 (lv_at hl 14 rfl) ?_
          refine lv_iconst (v := 1) hx hb dL_holds_279 (by decide) ?_
          refine lv_iconst (v := 0) hx hb dL_holds_280 (by decide) ?_
          refine cl_o1 (rSP (A := blk b (b + 170)) (As := [.ref b, .int 3, .int (nI k), .int 1, .int 0]) (rest := [.int (nI ((nwK (mN M) k) + (nwY (mN M) k - nwK (mN M) k)))]) ⟨hx, hb, hml, hown, hts⟩ (c_call_3 l G b X (nI k) 1 0 (nI (nwY (mN M) k)) X hst (rd_car1 RX hk)) (va_cwS 5 hts gL_holds_L_call rfl rfl rfl (by decide +kernel) ⟨(Nat.le_of_ble_eq_true rfl), (Nat.le_of_ble_eq_true rfl)⟩) hP hO (thr_at hTh hS (fun q h => h)) hN rfl hl.1 (Nat.le_of_ble_eq_true rfl) dL_holds_281 ⟨(by show 9 + 17 * k + 1 + 1 + 1 + 1 + 1 + 1 + 1 ≤ 2000; omega), (by show 54 + 102 * k + 6 + 6 + 6 + 6 + 6 + 6 + 6 ≤ 12000; omega)⟩) hS (fun q h => h) (fun H locs hP hS => ?_)
          refine lv_icmp_ne (tgt := 334) hx hb dL_holds_284 (by decide) (fun c112 => absurd (congrArg nI (show ((nwK (mN M) k) + (nwY (mN M) k - nwK (mN M) k) : Nat) = nwY (mN M) k by omega)) c112) (fun _ => ?_)
          refine lv_iload hx hb dL_holds_287 (lv_at hl 5 rfl) ?_
          refine lv_iconst (v := 2) hx hb dL_holds_289 (by decide) ?_
          refine lv_icmp_ne (tgt := 307) hx hb dL_holds_290 (by decide) (fun _ => ?_) (fun c113 => absurd c113 (fun z => absurd (nI_inj (a := nwT (mN M) k) (b := 2) (by omega) (by omega) z) (by omega)))
          refine lv_iload hx hb dL_holds_307 (lv_at hl 5 rfl) ?_
          refine lv_iconst (v := 3) hx hb dL_holds_309 (by decide) ?_
          refine lv_icmp_ne (tgt := 330) hx hb dL_holds_310 (by decide) (fun _ => ?_) (fun c114 => absurd c114 (fun z => absurd (nI_inj (a := nwT (mN M) k) (b := 3) (by omega) (by omega) z) (by omega)))
          refine lv_iconst (v := 1) hx hb dL_holds_330 (by decide) ?_
          refine lv_goto (tgt := 335) hx hb dL_holds_331 (by decide) ?_
          refine lv_istore (lv' := [(8, .int 1), (6, .int (nI ((sm (nwK (mN M)) k) + (nwK (mN M) k)))), (14, .int (nI (nwY (mN M) k - nwK (mN M) k))), (13, .int (nI (nwK (mN M) k))), (12, .int (nI (pj (mN M) k))), (11, .int (nI (px (mN M) k))), (10, .int (nI (nwT (mN M) k))), (0, .ref b), (1, .int (nI (gm (mN M)))), (2, .int (nI (f_X7_gaps (mN M)))), (3, .int (nI (cO (mN M)))), (4, .int (nI (sm (lk (mN M)) k))), (5, .int (nI (sm (isT (mN M) 0) k))), (7, .int (nI (cE (mN M)))), (9, .int (nI k))]) hx hb dL_holds_335 hl (by decide) rfl (fun ls hl => ?_)
          refine lv_iload hx hb dL_holds_337 (lv_at hl 6 rfl) ?_
          refine lv_if_ne (tgt := 398) hx hb dL_holds_339 (by decide) (fun c115 => absurd (congrArg nI (show (nwT (mN M) k : Nat) = 0 by omega)) c115) (fun _ => ?_)
          refine lv_iinc (v := nI (sm (isT (mN M) 0) k + 1)) (lv' := [(5, .int (nI (sm (isT (mN M) 0) k + 1))), (8, .int 1), (6, .int (nI ((sm (nwK (mN M)) k) + (nwK (mN M) k)))), (14, .int (nI (nwY (mN M) k - nwK (mN M) k))), (13, .int (nI (nwK (mN M) k))), (12, .int (nI (pj (mN M) k))), (11, .int (nI (px (mN M) k))), (10, .int (nI (nwT (mN M) k))), (0, .ref b), (1, .int (nI (gm (mN M)))), (2, .int (nI (f_X7_gaps (mN M)))), (3, .int (nI (cO (mN M)))), (4, .int (nI (sm (lk (mN M)) k))), (7, .int (nI (cE (mN M)))), (9, .int (nI k))]) hx hb dL_holds_342 hl (k := 12) rfl (nI_1 _) (by decide) rfl (fun ls hl => ?_)
          refine lv_iload hx hb dL_holds_345 (lv_at hl 12 rfl) ?_
          refine lv_iload hx hb dL_holds_347 (lv_at hl 5 rfl) ?_
          refine iadd_n (a := sm (lk (mN M)) k) (b := pj (mN M) k) hx hb dL_holds_349 ?_
          refine lv_istore (lv' := [(4, .int (nI ((sm (lk (mN M)) k) + (pj (mN M) k)))), (5, .int (nI (sm (isT (mN M) 0) k + 1))), (8, .int 1), (6, .int (nI ((sm (nwK (mN M)) k) + (nwK (mN M) k)))), (14, .int (nI (nwY (mN M) k - nwK (mN M) k))), (13, .int (nI (nwK (mN M) k))), (12, .int (nI (pj (mN M) k))), (11, .int (nI (px (mN M) k))), (10, .int (nI (nwT (mN M) k))), (0, .ref b), (1, .int (nI (gm (mN M)))), (2, .int (nI (f_X7_gaps (mN M)))), (3, .int (nI (cO (mN M)))), (7, .int (nI (cE (mN M)))), (9, .int (nI k))]) hx hb dL_holds_350 hl (by decide) rfl (fun ls hl => ?_)
          refine lv_iload hx hb dL_holds_352 (lv_at hl 7 rfl) ?_
          refine lv_istore (lv' := [(15, .int (nI (px (mN M) k))), (4, .int (nI ((sm (lk (mN M)) k) + (pj (mN M) k)))), (5, .int (nI (sm (isT (mN M) 0) k + 1))), (8, .int 1), (6, .int (nI ((sm (nwK (mN M)) k) + (nwK (mN M) k)))), (14, .int (nI (nwY (mN M) k - nwK (mN M) k))), (13, .int (nI (nwK (mN M) k))), (12, .int (nI (pj (mN M) k))), (11, .int (nI (px (mN M) k))), (10, .int (nI (nwT (mN M) k))), (0, .ref b), (1, .int (nI (gm (mN M)))), (2, .int (nI (f_X7_gaps (mN M)))), (3, .int (nI (cO (mN M)))), (7, .int (nI (cE (mN M)))), (9, .int (nI k))]) hx hb dL_holds_354 hl (by decide) rfl (fun ls hl => ?_)
          refine W.widen (k := 9 + 17 * k + 8 + ((px (mN M) k) - px (mN M) k)) (n := 54 + 102 * k + 48 + 6 * ((px (mN M) k) - px (mN M) k)) (by omega) (by omega) ?_
          exact cut356 (80 + 1) (px (mN M) k) (by omega) hk hs (by omega) (by omega) _ _ _ hP hS (lv_sub hl [10, 11, 12, 13, 1, 2, 4, 14, 3, 15, 8, 7, 0] rfl)
        · have hs : ¬ nwT (mN M) k = 0 := fun z => by
            rw [(RX.nw.2.ri.X hk (zz.mpr z)).1] at c103
            exact nI_m1 (by have := (RX.nw.2.ri.X hk (zz.mpr z)).2.2; omega) c103
          rw [c103, lf_n hs] at hl
          refine lv_iconst (v := 1) hx hb dL_holds_204 (by decide) ?_
          refine lv_goto (tgt := 209) hx hb dL_holds_205 (by decide) ?_
          refine lv_iload hx hb dL_holds_209 (lv_at hl 5 rfl) ?_
          refine lv_if_eq (tgt := 218) hx hb dL_holds_211 (by decide) (fun c116 => absurd c116 (fun z => absurd (nI_inj (a := nwT (mN M) k) (b := 0) (by omega) (by omega) z) (by omega))) (fun _ => ?_)
          refine lv_iconst (v := 1) hx hb dL_holds_214 (by decide) ?_
          refine lv_goto (tgt := 219) hx hb dL_holds_215 (by decide) ?_
          refine lv_icmp_ne (tgt := 334) hx hb dL_holds_219 (by decide) (fun c117 => absurd (by decide) c117) (fun _ => ?_)
          refine lv_iload hx hb dL_holds_222 (lv_at hl 1 rfl) ?_
          refine lv_iconst (v := -1) hx hb dL_holds_224 (by decide) ?_
          refine lv_icmp_ne (tgt := 232) hx hb dL_holds_225 (by decide) (fun c118 => absurd (by decide) c118) (fun _ => ?_)
          refine lv_iconst (v := 1) hx hb dL_holds_228 (by decide) ?_
          refine lv_goto (tgt := 233) hx hb dL_holds_229 (by decide) ?_
          refine lv_iload hx hb dL_holds_233 (lv_at hl 5 rfl) ?_
          refine lv_if_eq (tgt := 242) hx hb dL_holds_235 (by decide) (fun c119 => absurd c119 (fun z => absurd (nI_inj (a := nwT (mN M) k) (b := 0) (by omega) (by omega) z) (by omega))) (fun _ => ?_)
          refine lv_iconst (v := 1) hx hb dL_holds_238 (by decide) ?_
          refine lv_goto (tgt := 243) hx hb dL_holds_239 (by decide) ?_
          refine lv_icmp_ne (tgt := 334) hx hb dL_holds_243 (by decide) (fun c120 => absurd (by decide) c120) (fun _ => ?_)
          refine lv_iload hx hb dL_holds_246 (lv_at hl 2 rfl) ?_
          refine lv_aload_n hx hb dL_holds_248 rfl (lv_at hl 6 rfl) ?_
          refine lv_iconst (v := 3) hx hb dL_holds_249 (by decide) ?_
          refine lv_iload hx hb dL_holds_250 (lv_at hl 14 rfl) ?_
          refine lv_iconst (v := 1) hx hb dL_holds_252 (by decide) ?_
          refine lv_iconst (v := 0) hx hb dL_holds_253 (by decide) ?_
          refine cl_o1 (rSP (A := blk b (b + 170)) (As := [.ref b, .int 3, .int (nI k), .int 1, .int 0]) (rest := [.int (nI (nwK (mN M) k))]) ⟨hx, hb, hml, hown, hts⟩ (c_call_3 l G b X (nI k) 1 0 (nI (nwY (mN M) k)) X hst (rd_car1 RX hk)) (va_cwS 5 hts gL_holds_L_call rfl rfl rfl (by decide +kernel) ⟨(Nat.le_of_ble_eq_true rfl), (Nat.le_of_ble_eq_true rfl)⟩) hP hO (thr_at hTh hS (fun q h => h)) hN rfl hl.1 (Nat.le_of_ble_eq_true rfl) dL_holds_254 ⟨(by show 9 + 17 * k + 1 + 1 + 1 + 1 + 1 + 1 ≤ 2000; omega), (by show 54 + 102 * k + 6 + 6 + 6 + 6 + 6 + 6 ≤ 12000; omega)⟩) hS (fun q h => h) (fun H locs hP hS => ?_)
          refine lv_icmp_gt (tgt := 334) hx hb dL_holds_257 (by decide) (fun c121 => absurd c121 (nI_nlt (a := nwY (mN M) k) (b := nwK (mN M) k) (by omega) (by omega))) (fun _ => ?_)
          refine lv_iload hx hb dL_holds_260 (lv_at hl 5 rfl) ?_
          refine lv_if_ne (tgt := 287) hx hb dL_holds_262 (by decide) (fun _ => ?_) (fun c122 => absurd c122 (fun z => absurd (nI_inj (a := nwT (mN M) k) (b := 0) (by omega) (by omega) z) (by omega)))
          refine lv_iload hx hb dL_holds_287 (lv_at hl 5 rfl) ?_
          refine lv_iconst (v := 2) hx hb dL_holds_289 (by decide) ?_
          refine lv_icmp_ne (tgt := 307) hx hb dL_holds_290 (by decide) (fun c123 => ?_) (fun c123 => ?_)
          · have c123f : ¬ (nwT (mN M) k : Nat) = 2 := fun z => c123 (congrArg nI z)
            refine lv_iload hx hb dL_holds_307 (lv_at hl 5 rfl) ?_
            refine lv_iconst (v := 3) hx hb dL_holds_309 (by decide) ?_
            refine lv_icmp_ne (tgt := 330) hx hb dL_holds_310 (by decide) (fun c124 => ?_) (fun c124 => ?_)
            · refine lv_iconst (v := 1) hx hb dL_holds_330 (by decide) ?_
              refine lv_goto (tgt := 335) hx hb dL_holds_331 (by decide) ?_
              refine lv_istore (lv' := [(8, .int 1), (6, .int (nI ((sm (nwK (mN M)) k) + (nwK (mN M) k)))), (14, .int (-1)), (13, .int (nI (nwK (mN M) k))), (12, .int (nI (pj (mN M) k))), (11, .int (-1)), (10, .int (nI (nwT (mN M) k))), (0, .ref b), (1, .int (nI (gm (mN M)))), (2, .int (nI (f_X7_gaps (mN M)))), (3, .int (nI (cO (mN M)))), (4, .int (nI (sm (lk (mN M)) k))), (5, .int (nI (sm (isT (mN M) 0) k))), (7, .int (nI (cE (mN M)))), (9, .int (nI k))]) hx hb dL_holds_335 hl (by decide) rfl (fun ls hl => ?_)
              refine lv_iload hx hb dL_holds_337 (lv_at hl 6 rfl) ?_
              refine lv_if_ne (tgt := 398) hx hb dL_holds_339 (by decide) (fun _ => ?_) (fun c125 => absurd c125 (fun z => absurd (nI_inj (a := nwT (mN M) k) (b := 0) (by omega) (by omega) z) (by omega)))
              have e4 : sm (lk (mN M)) (k + 1) = sm (lk (mN M)) k := by rw [sm_s, lk_n hs, Nat.add_zero]
              have e5 : sm (isT (mN M) 0) (k + 1) = sm (isT (mN M) 0) k := by rw [sm_s, isT_n hs, Nat.add_zero]
              have e6 : sm (nwK (mN M)) (k + 1) = sm (nwK (mN M)) k + nwK (mN M) k := rfl
              rw [← e4, ← e5, ← e6] at hl
              refine lv_iinc (v := nI (k + 1)) (lv' := [(9, .int (nI (k + 1))), (8, .int 1), (6, .int (nI (sm (nwK (mN M)) (k + 1)))), (14, .int (-1)), (13, .int (nI (nwK (mN M) k))), (12, .int (nI (pj (mN M) k))), (11, .int (-1)), (10, .int (nI (nwT (mN M) k))), (0, .ref b), (1, .int (nI (gm (mN M)))), (2, .int (nI (f_X7_gaps (mN M)))), (3, .int (nI (cO (mN M)))), (4, .int (nI (sm (lk (mN M)) (k + 1)))), (5, .int (nI (sm (isT (mN M) 0) (k + 1)))), (7, .int (nI (cE (mN M))))]) hx hb dL_holds_398 hl (k := 14) rfl (nI_1 _) (by decide) rfl (fun ls hl => ?_)
              refine lv_goto (tgt := 113) hx hb dL_holds_401 (by decide) ?_
              refine W.widen (k := 9 + 17 * (k + 1)) (n := 54 + 102 * (k + 1)) (by omega) (by omega) ?_
              exact ih113 (k + 1) (by omega) (by omega) _ _ _ hP hS (lv_sub hl [8, 9, 10, 11, 12, 13, 2, 14, 1, 0] rfl)
            · have c124f : (nwT (mN M) k : Nat) = 3 := nI_inj (a := nwT (mN M) k) (b := 3) (by omega) (by omega) c124
              have h33 := h3 c124f
              refine lv_aload_n hx hb dL_holds_313 rfl (lv_at hl 6 rfl) ?_
              refine lv_iconst (v := 3) hx hb dL_holds_314 (by decide) ?_
              refine lv_iload hx hb dL_holds_315 (lv_at hl 14 rfl) ?_
              refine lv_iconst (v := 5) hx hb dL_holds_317 (by decide) ?_
              refine lv_iconst (v := 0) hx hb dL_holds_318 (by decide) ?_
              refine cl_o1 (rSP (A := blk b (b + 170)) (As := [.ref b, .int 3, .int (nI k), .int 5, .int 0]) (rest := []) ⟨hx, hb, hml, hown, hts⟩ (c_call_3 l G b X (nI k) 5 0 (nI (nwR (mN M) k)) X hst (rd_car5 RX hk)) (va_cwS 5 hts gL_holds_L_call rfl rfl rfl (by decide +kernel) ⟨(Nat.le_of_ble_eq_true rfl), (Nat.le_of_ble_eq_true rfl)⟩) hP hO (thr_at hTh hS (fun q h => h)) hN rfl hl.1 (Nat.le_of_ble_eq_true rfl) dL_holds_319 ⟨(by show 9 + 17 * k + 1 + 1 + 1 + 1 + 1 + 1 + 1 ≤ 2000; omega), (by show 54 + 102 * k + 6 + 6 + 6 + 6 + 6 + 6 + 6 ≤ 12000; omega)⟩) hS (fun q h => h) (fun H locs hP hS => ?_)
              refine lv_if_le (tgt := 334) hx hb dL_holds_322 (by decide) (fun c126 => absurd c126 (nI_ge (a := 0) (b := nwR (mN M) k) (by omega) (by omega))) (fun _ => ?_)
              refine lv_iload hx hb dL_holds_325 (lv_at hl 2 rfl) ?_
              refine lv_if_ne (tgt := 334) hx hb dL_holds_327 (by decide) (fun c127 => absurd (congrArg nI (show (nwK (mN M) k : Nat) = 0 by omega)) c127) (fun _ => ?_)
              refine lv_iconst (v := 1) hx hb dL_holds_330 (by decide) ?_
              refine lv_goto (tgt := 335) hx hb dL_holds_331 (by decide) ?_
              refine lv_istore (lv' := [(8, .int 1), (6, .int (nI ((sm (nwK (mN M)) k) + (nwK (mN M) k)))), (14, .int (-1)), (13, .int (nI (nwK (mN M) k))), (12, .int (nI (pj (mN M) k))), (11, .int (-1)), (10, .int (nI (nwT (mN M) k))), (0, .ref b), (1, .int (nI (gm (mN M)))), (2, .int (nI (f_X7_gaps (mN M)))), (3, .int (nI (cO (mN M)))), (4, .int (nI (sm (lk (mN M)) k))), (5, .int (nI (sm (isT (mN M) 0) k))), (7, .int (nI (cE (mN M)))), (9, .int (nI k))]) hx hb dL_holds_335 hl (by decide) rfl (fun ls hl => ?_)
              refine lv_iload hx hb dL_holds_337 (lv_at hl 6 rfl) ?_
              refine lv_if_ne (tgt := 398) hx hb dL_holds_339 (by decide) (fun _ => ?_) (fun c128 => absurd c128 (fun z => absurd (nI_inj (a := nwT (mN M) k) (b := 0) (by omega) (by omega) z) (by omega)))
              have e4 : sm (lk (mN M)) (k + 1) = sm (lk (mN M)) k := by rw [sm_s, lk_n hs, Nat.add_zero]
              have e5 : sm (isT (mN M) 0) (k + 1) = sm (isT (mN M) 0) k := by rw [sm_s, isT_n hs, Nat.add_zero]
              have e6 : sm (nwK (mN M)) (k + 1) = sm (nwK (mN M)) k + nwK (mN M) k := rfl
              rw [← e4, ← e5, ← e6] at hl
              refine lv_iinc (v := nI (k + 1)) (lv' := [(9, .int (nI (k + 1))), (8, .int 1), (6, .int (nI (sm (nwK (mN M)) (k + 1)))), (14, .int (-1)), (13, .int (nI (nwK (mN M) k))), (12, .int (nI (pj (mN M) k))), (11, .int (-1)), (10, .int (nI (nwT (mN M) k))), (0, .ref b), (1, .int (nI (gm (mN M)))), (2, .int (nI (f_X7_gaps (mN M)))), (3, .int (nI (cO (mN M)))), (4, .int (nI (sm (lk (mN M)) (k + 1)))), (5, .int (nI (sm (isT (mN M) 0) (k + 1)))), (7, .int (nI (cE (mN M))))]) hx hb dL_holds_398 hl (k := 14) rfl (nI_1 _) (by decide) rfl (fun ls hl => ?_)
              refine lv_goto (tgt := 113) hx hb dL_holds_401 (by decide) ?_
              refine W.widen (k := 9 + 17 * (k + 1)) (n := 54 + 102 * (k + 1)) (by omega) (by omega) ?_
              exact ih113 (k + 1) (by omega) (by omega) _ _ _ hP hS (lv_sub hl [8, 9, 10, 11, 12, 13, 2, 14, 1, 0] rfl)
          · have c123f : (nwT (mN M) k : Nat) = 2 := nI_inj (a := nwT (mN M) k) (b := 2) (by omega) (by omega) c123
            refine lv_iload hx hb dL_holds_293 (lv_at hl 2 rfl) ?_
            refine lv_aload_n hx hb dL_holds_295 rfl (lv_at hl 6 rfl) ?_
            refine lv_iconst (v := 3) hx hb dL_holds_296 (by decide) ?_
            refine lv_iload hx hb dL_holds_297 (lv_at hl 14 rfl) ?_
            refine lv_iconst (v := 1) hx hb dL_holds_299 (by decide) ?_
            refine lv_iconst (v := 0) hx hb dL_holds_300 (by decide) ?_
            refine cl_o1 (rSP (A := blk b (b + 170)) (As := [.ref b, .int 3, .int (nI k), .int 1, .int 0]) (rest := [.int (nI (nwK (mN M) k))]) ⟨hx, hb, hml, hown, hts⟩ (c_call_3 l G b X (nI k) 1 0 (nI (nwY (mN M) k)) X hst (rd_car1 RX hk)) (va_cwS 5 hts gL_holds_L_call rfl rfl rfl (by decide +kernel) ⟨(Nat.le_of_ble_eq_true rfl), (Nat.le_of_ble_eq_true rfl)⟩) hP hO (thr_at hTh hS (fun q h => h)) hN rfl hl.1 (Nat.le_of_ble_eq_true rfl) dL_holds_301 ⟨(by show 9 + 17 * k + 1 + 1 + 1 + 1 + 1 + 1 + 1 ≤ 2000; omega), (by show 54 + 102 * k + 6 + 6 + 6 + 6 + 6 + 6 + 6 ≤ 12000; omega)⟩) hS (fun q h => h) (fun H locs hP hS => ?_)
            refine lv_icmp_gt (tgt := 334) hx hb dL_holds_304 (by decide) (fun c129 => absurd c129 (nI_nlt (a := nwY (mN M) k) (b := nwK (mN M) k) (by omega) (by omega))) (fun _ => ?_)
            refine lv_iload hx hb dL_holds_307 (lv_at hl 5 rfl) ?_
            refine lv_iconst (v := 3) hx hb dL_holds_309 (by decide) ?_
            refine lv_icmp_ne (tgt := 330) hx hb dL_holds_310 (by decide) (fun _ => ?_) (fun c130 => absurd c130 (fun z => absurd (nI_inj (a := nwT (mN M) k) (b := 3) (by omega) (by omega) z) (by omega)))
            refine lv_iconst (v := 1) hx hb dL_holds_330 (by decide) ?_
            refine lv_goto (tgt := 335) hx hb dL_holds_331 (by decide) ?_
            refine lv_istore (lv' := [(8, .int 1), (6, .int (nI ((sm (nwK (mN M)) k) + (nwK (mN M) k)))), (14, .int (-1)), (13, .int (nI (nwK (mN M) k))), (12, .int (nI (pj (mN M) k))), (11, .int (-1)), (10, .int (nI (nwT (mN M) k))), (0, .ref b), (1, .int (nI (gm (mN M)))), (2, .int (nI (f_X7_gaps (mN M)))), (3, .int (nI (cO (mN M)))), (4, .int (nI (sm (lk (mN M)) k))), (5, .int (nI (sm (isT (mN M) 0) k))), (7, .int (nI (cE (mN M)))), (9, .int (nI k))]) hx hb dL_holds_335 hl (by decide) rfl (fun ls hl => ?_)
            refine lv_iload hx hb dL_holds_337 (lv_at hl 6 rfl) ?_
            refine lv_if_ne (tgt := 398) hx hb dL_holds_339 (by decide) (fun _ => ?_) (fun c131 => absurd c131 (fun z => absurd (nI_inj (a := nwT (mN M) k) (b := 0) (by omega) (by omega) z) (by omega)))
            have e4 : sm (lk (mN M)) (k + 1) = sm (lk (mN M)) k := by rw [sm_s, lk_n hs, Nat.add_zero]
            have e5 : sm (isT (mN M) 0) (k + 1) = sm (isT (mN M) 0) k := by rw [sm_s, isT_n hs, Nat.add_zero]
            have e6 : sm (nwK (mN M)) (k + 1) = sm (nwK (mN M)) k + nwK (mN M) k := rfl
            rw [← e4, ← e5, ← e6] at hl
            refine lv_iinc (v := nI (k + 1)) (lv' := [(9, .int (nI (k + 1))), (8, .int 1), (6, .int (nI (sm (nwK (mN M)) (k + 1)))), (14, .int (-1)), (13, .int (nI (nwK (mN M) k))), (12, .int (nI (pj (mN M) k))), (11, .int (-1)), (10, .int (nI (nwT (mN M) k))), (0, .ref b), (1, .int (nI (gm (mN M)))), (2, .int (nI (f_X7_gaps (mN M)))), (3, .int (nI (cO (mN M)))), (4, .int (nI (sm (lk (mN M)) (k + 1)))), (5, .int (nI (sm (isT (mN M) 0) (k + 1)))), (7, .int (nI (cE (mN M))))]) hx hb dL_holds_398 hl (k := 14) rfl (nI_1 _) (by decide) rfl (fun ls hl => ?_)
            refine lv_goto (tgt := 113) hx hb dL_holds_401 (by decide) ?_
            refine W.widen (k := 9 + 17 * (k + 1)) (n := 54 + 102 * (k + 1)) (by omega) (by omega) ?_
            exact ih113 (k + 1) (by omega) (by omega) _ _ _ hP hS (lv_sub hl [8, 9, 10, 11, 12, 13, 2, 14, 1, 0] rfl)
  refine lv_aload_n hx hb dL_holds_0 rfl (lv_at hl 0 rfl) ?_
  refine lv_iconst (v := 2) hx hb dL_holds_1 (by decide) ?_
  refine lv_iconst (v := 0) hx hb dL_holds_2 (by decide) ?_
  refine lv_iconst (v := 0) hx hb dL_holds_3 (by decide) ?_
  refine lv_iconst (v := 0) hx hb dL_holds_4 (by decide) ?_
  refine cl_o1 (rSP (A := blk b (b + 170)) (As := [.ref b, .int 2, .int 0, .int 0, .int 0]) (rest := []) ⟨hx, hb, hml, hown, hts⟩ (c_call_2 l G b X 0 0 0 (nI (gm (mN M))) X hst (rd_ab0 RX)) (va_cwS 5 hts gL_holds_L_call rfl rfl rfl (by decide +kernel) ⟨(Nat.le_of_ble_eq_true rfl), (Nat.le_of_ble_eq_true rfl)⟩) hP hO (thr_at hTh hS (fun q h => h)) hN rfl hl.1 (Nat.le_of_ble_eq_true rfl) dL_holds_5 ⟨(Nat.le_of_ble_eq_true rfl), (Nat.le_of_ble_eq_true rfl)⟩) hS (fun q h => h) (fun H locs hP hS => ?_)
  refine lv_istore_n (lv' := [(1, .int (nI (gm (mN M)))), (0, .ref b)]) hx hb dL_holds_8 rfl hl (by decide) rfl (fun ls hl => ?_)
  refine lv_aload_n hx hb dL_holds_9 rfl (lv_at hl 1 rfl) ?_
  refine lv_iconst (v := 2) hx hb dL_holds_10 (by decide) ?_
  refine lv_bipush (v := 7) hx hb dL_holds_11 (by decide) ?_
  refine lv_iconst (v := 0) hx hb dL_holds_13 (by decide) ?_
  refine lv_iconst (v := 0) hx hb dL_holds_14 (by decide) ?_
  refine cl_o1 (rSP (A := blk b (b + 170)) (As := [.ref b, .int 2, .int 7, .int 0, .int 0]) (rest := []) ⟨hx, hb, hml, hown, hts⟩ (c_call_2 l G b X 7 0 0 (nI (f_X7_gaps (mN M))) X hst (rd_ab7 RX)) (va_cwS 5 hts gL_holds_L_call rfl rfl rfl (by decide +kernel) ⟨(Nat.le_of_ble_eq_true rfl), (Nat.le_of_ble_eq_true rfl)⟩) hP hO (thr_at hTh hS (fun q h => h)) hN rfl hl.1 (Nat.le_of_ble_eq_true rfl) dL_holds_15 ⟨(Nat.le_of_ble_eq_true rfl), (Nat.le_of_ble_eq_true rfl)⟩) hS (fun q h => h) (fun H locs hP hS => ?_)
  refine lv_istore_n (lv' := [(2, .int (nI (f_X7_gaps (mN M)))), (1, .int (nI (gm (mN M)))), (0, .ref b)]) hx hb dL_holds_18 rfl hl (by decide) rfl (fun ls hl => ?_)
  refine lv_aload_n hx hb dL_holds_19 rfl (lv_at hl 2 rfl) ?_
  refine lv_bipush (v := 6) hx hb dL_holds_20 (by decide) ?_
  refine lv_iconst (v := 1) hx hb dL_holds_22 (by decide) ?_
  refine lv_iconst (v := 0) hx hb dL_holds_23 (by decide) ?_
  refine lv_iconst (v := 0) hx hb dL_holds_24 (by decide) ?_
  refine cl_o1 (rSP (A := blk b (b + 170)) (As := [.ref b, .int 6, .int 1, .int 0, .int 0]) (rest := []) ⟨hx, hb, hml, hown, hts⟩ (c_call_6 l G b X 1 0 0 (nI (cO (mN M))) X hst (rd_set1 RX)) (va_cwS 5 hts gL_holds_L_call rfl rfl rfl (by decide +kernel) ⟨(Nat.le_of_ble_eq_true rfl), (Nat.le_of_ble_eq_true rfl)⟩) hP hO (thr_at hTh hS (fun q h => h)) hN rfl hl.1 (Nat.le_of_ble_eq_true rfl) dL_holds_25 ⟨(Nat.le_of_ble_eq_true rfl), (Nat.le_of_ble_eq_true rfl)⟩) hS (fun q h => h) (fun H locs hP hS => ?_)
  refine lv_istore_n (lv' := [(3, .int (nI (cO (mN M)))), (2, .int (nI (f_X7_gaps (mN M)))), (1, .int (nI (gm (mN M)))), (0, .ref b)]) hx hb dL_holds_28 rfl hl (by decide) rfl (fun ls hl => ?_)
  refine lv_iconst (v := 0) hx hb dL_holds_29 (by decide) ?_
  refine lv_istore (lv' := [(4, .int 0), (3, .int (nI (cO (mN M)))), (2, .int (nI (f_X7_gaps (mN M)))), (1, .int (nI (gm (mN M)))), (0, .ref b)]) hx hb dL_holds_30 hl (by decide) rfl (fun ls hl => ?_)
  refine lv_iconst (v := 0) hx hb dL_holds_32 (by decide) ?_
  refine lv_istore (lv' := [(5, .int 0), (4, .int 0), (3, .int (nI (cO (mN M)))), (2, .int (nI (f_X7_gaps (mN M)))), (1, .int (nI (gm (mN M)))), (0, .ref b)]) hx hb dL_holds_33 hl (by decide) rfl (fun ls hl => ?_)
  refine lv_iconst (v := 0) hx hb dL_holds_35 (by decide) ?_
  refine lv_istore (lv' := [(6, .int 0), (5, .int 0), (4, .int 0), (3, .int (nI (cO (mN M)))), (2, .int (nI (f_X7_gaps (mN M)))), (1, .int (nI (gm (mN M)))), (0, .ref b)]) hx hb dL_holds_36 hl (by decide) rfl (fun ls hl => ?_)
  refine lv_aload_n hx hb dL_holds_38 rfl (lv_at hl 6 rfl) ?_
  refine lv_bipush (v := 6) hx hb dL_holds_39 (by decide) ?_
  refine lv_iconst (v := 2) hx hb dL_holds_41 (by decide) ?_
  refine lv_iconst (v := 0) hx hb dL_holds_42 (by decide) ?_
  refine lv_iconst (v := 0) hx hb dL_holds_43 (by decide) ?_
  refine cl_o1 (rSP (A := blk b (b + 170)) (As := [.ref b, .int 6, .int 2, .int 0, .int 0]) (rest := []) ⟨hx, hb, hml, hown, hts⟩ (c_call_6 l G b X 2 0 0 (nI (cE (mN M))) X hst (rd_set2 RX)) (va_cwS 5 hts gL_holds_L_call rfl rfl rfl (by decide +kernel) ⟨(Nat.le_of_ble_eq_true rfl), (Nat.le_of_ble_eq_true rfl)⟩) hP hO (thr_at hTh hS (fun q h => h)) hN rfl hl.1 (Nat.le_of_ble_eq_true rfl) dL_holds_44 ⟨(Nat.le_of_ble_eq_true rfl), (Nat.le_of_ble_eq_true rfl)⟩) hS (fun q h => h) (fun H locs hP hS => ?_)
  refine lv_istore (lv' := [(7, .int (nI (cE (mN M)))), (6, .int 0), (5, .int 0), (4, .int 0), (3, .int (nI (cO (mN M)))), (2, .int (nI (f_X7_gaps (mN M)))), (1, .int (nI (gm (mN M)))), (0, .ref b)]) hx hb dL_holds_47 hl (by decide) rfl (fun ls hl => ?_)
  refine lv_iload_n hx hb dL_holds_49 rfl (lv_at hl 6 rfl) ?_
  refine lv_bipush (v := 40) hx hb dL_holds_50 (by decide) ?_
  refine lv_icmp_gt (tgt := 107) hx hb dL_holds_52 (by decide) (fun c132 => absurd c132 (nI_nlt (a := 40) (b := gm (mN M)) (by omega) (by omega))) (fun _ => ?_)
  refine lv_aload_n hx hb dL_holds_55 rfl (lv_at hl 7 rfl) ?_
  refine lv_iconst (v := 2) hx hb dL_holds_56 (by decide) ?_
  refine lv_iconst (v := 1) hx hb dL_holds_57 (by decide) ?_
  refine lv_iconst (v := 0) hx hb dL_holds_58 (by decide) ?_
  refine lv_iconst (v := 0) hx hb dL_holds_59 (by decide) ?_
  refine cl_o1 (rSP (A := blk b (b + 170)) (As := [.ref b, .int 2, .int 1, .int 0, .int 0]) (rest := []) ⟨hx, hb, hml, hown, hts⟩ (c_call_2 l G b X 1 0 0 (nI (sm (isT (mN M) 0) (gm (mN M)))) X hst (rd_ab1 RX)) (va_cwS 5 hts gL_holds_L_call rfl rfl rfl (by decide +kernel) ⟨(Nat.le_of_ble_eq_true rfl), (Nat.le_of_ble_eq_true rfl)⟩) hP hO (thr_at hTh hS (fun q h => h)) hN rfl hl.1 (Nat.le_of_ble_eq_true rfl) dL_holds_60 ⟨(Nat.le_of_ble_eq_true rfl), (Nat.le_of_ble_eq_true rfl)⟩) hS (fun q h => h) (fun H locs hP hS => ?_)
  refine lv_aload_n hx hb dL_holds_63 rfl (lv_at hl 7 rfl) ?_
  refine lv_iconst (v := 2) hx hb dL_holds_64 (by decide) ?_
  refine lv_iconst (v := 2) hx hb dL_holds_65 (by decide) ?_
  refine lv_iconst (v := 0) hx hb dL_holds_66 (by decide) ?_
  refine lv_iconst (v := 0) hx hb dL_holds_67 (by decide) ?_
  refine cl_o1 (rSP (A := blk b (b + 170)) (As := [.ref b, .int 2, .int 2, .int 0, .int 0]) (rest := [.int (nI (sm (isT (mN M) 0) (gm (mN M))))]) ⟨hx, hb, hml, hown, hts⟩ (c_call_2 l G b X 2 0 0 (nI (sm (isT (mN M) 1) (gm (mN M)))) X hst (rd_ab2 RX)) (va_cwS 5 hts gL_holds_L_call rfl rfl rfl (by decide +kernel) ⟨(Nat.le_of_ble_eq_true rfl), (Nat.le_of_ble_eq_true rfl)⟩) hP hO (thr_at hTh hS (fun q h => h)) hN rfl hl.1 (Nat.le_of_ble_eq_true rfl) dL_holds_68 ⟨(Nat.le_of_ble_eq_true rfl), (Nat.le_of_ble_eq_true rfl)⟩) hS (fun q h => h) (fun H locs hP hS => ?_)
  refine iadd_n (a := sm (isT (mN M) 0) (gm (mN M))) (b := sm (isT (mN M) 1) (gm (mN M))) hx hb dL_holds_71 ?_
  refine lv_aload_n hx hb dL_holds_72 rfl (lv_at hl 7 rfl) ?_
  refine lv_iconst (v := 2) hx hb dL_holds_73 (by decide) ?_
  refine lv_iconst (v := 3) hx hb dL_holds_74 (by decide) ?_
  refine lv_iconst (v := 0) hx hb dL_holds_75 (by decide) ?_
  refine lv_iconst (v := 0) hx hb dL_holds_76 (by decide) ?_
  refine cl_o1 (rSP (A := blk b (b + 170)) (As := [.ref b, .int 2, .int 3, .int 0, .int 0]) (rest := [.int (nI ((sm (isT (mN M) 0) (gm (mN M))) + (sm (isT (mN M) 1) (gm (mN M)))))]) ⟨hx, hb, hml, hown, hts⟩ (c_call_2 l G b X 3 0 0 (nI (sm (isT (mN M) 2) (gm (mN M)))) X hst (rd_ab3 RX)) (va_cwS 5 hts gL_holds_L_call rfl rfl rfl (by decide +kernel) ⟨(Nat.le_of_ble_eq_true rfl), (Nat.le_of_ble_eq_true rfl)⟩) hP hO (thr_at hTh hS (fun q h => h)) hN rfl hl.1 (Nat.le_of_ble_eq_true rfl) dL_holds_77 ⟨(Nat.le_of_ble_eq_true rfl), (Nat.le_of_ble_eq_true rfl)⟩) hS (fun q h => h) (fun H locs hP hS => ?_)
  refine iadd_n (a := (sm (isT (mN M) 0) (gm (mN M))) + (sm (isT (mN M) 1) (gm (mN M)))) (b := sm (isT (mN M) 2) (gm (mN M))) hx hb dL_holds_80 ?_
  refine lv_aload_n hx hb dL_holds_81 rfl (lv_at hl 7 rfl) ?_
  refine lv_iconst (v := 2) hx hb dL_holds_82 (by decide) ?_
  refine lv_iconst (v := 4) hx hb dL_holds_83 (by decide) ?_
  refine lv_iconst (v := 0) hx hb dL_holds_84 (by decide) ?_
  refine lv_iconst (v := 0) hx hb dL_holds_85 (by decide) ?_
  refine cl_o1 (rSP (A := blk b (b + 170)) (As := [.ref b, .int 2, .int 4, .int 0, .int 0]) (rest := [.int (nI (((sm (isT (mN M) 0) (gm (mN M))) + (sm (isT (mN M) 1) (gm (mN M)))) + (sm (isT (mN M) 2) (gm (mN M)))))]) ⟨hx, hb, hml, hown, hts⟩ (c_call_2 l G b X 4 0 0 (nI (sm (isT (mN M) 3) (gm (mN M)))) X hst (rd_ab4 RX)) (va_cwS 5 hts gL_holds_L_call rfl rfl rfl (by decide +kernel) ⟨(Nat.le_of_ble_eq_true rfl), (Nat.le_of_ble_eq_true rfl)⟩) hP hO (thr_at hTh hS (fun q h => h)) hN rfl hl.1 (Nat.le_of_ble_eq_true rfl) dL_holds_86 ⟨(Nat.le_of_ble_eq_true rfl), (Nat.le_of_ble_eq_true rfl)⟩) hS (fun q h => h) (fun H locs hP hS => ?_)
  refine iadd_n (a := ((sm (isT (mN M) 0) (gm (mN M))) + (sm (isT (mN M) 1) (gm (mN M)))) + (sm (isT (mN M) 2) (gm (mN M)))) (b := sm (isT (mN M) 3) (gm (mN M))) hx hb dL_holds_89 ?_
  refine lv_aload_n hx hb dL_holds_90 rfl (lv_at hl 7 rfl) ?_
  refine lv_iconst (v := 2) hx hb dL_holds_91 (by decide) ?_
  refine lv_iconst (v := 5) hx hb dL_holds_92 (by decide) ?_
  refine lv_iconst (v := 0) hx hb dL_holds_93 (by decide) ?_
  refine lv_iconst (v := 0) hx hb dL_holds_94 (by decide) ?_
  refine cl_o1 (rSP (A := blk b (b + 170)) (As := [.ref b, .int 2, .int 5, .int 0, .int 0]) (rest := [.int (nI ((((sm (isT (mN M) 0) (gm (mN M))) + (sm (isT (mN M) 1) (gm (mN M)))) + (sm (isT (mN M) 2) (gm (mN M)))) + (sm (isT (mN M) 3) (gm (mN M)))))]) ⟨hx, hb, hml, hown, hts⟩ (c_call_2 l G b X 5 0 0 (nI (sm (isT (mN M) 4) (gm (mN M)))) X hst (rd_ab5 RX)) (va_cwS 5 hts gL_holds_L_call rfl rfl rfl (by decide +kernel) ⟨(Nat.le_of_ble_eq_true rfl), (Nat.le_of_ble_eq_true rfl)⟩) hP hO (thr_at hTh hS (fun q h => h)) hN rfl hl.1 (Nat.le_of_ble_eq_true rfl) dL_holds_95 ⟨(Nat.le_of_ble_eq_true rfl), (Nat.le_of_ble_eq_true rfl)⟩) hS (fun q h => h) (fun H locs hP hS => ?_)
  refine iadd_n (a := (((sm (isT (mN M) 0) (gm (mN M))) + (sm (isT (mN M) 1) (gm (mN M)))) + (sm (isT (mN M) 2) (gm (mN M)))) + (sm (isT (mN M) 3) (gm (mN M)))) (b := sm (isT (mN M) 4) (gm (mN M))) hx hb dL_holds_98 ?_
  refine lv_iload_n hx hb dL_holds_99 rfl (lv_at hl 6 rfl) ?_
  refine lv_icmp_ne (tgt := 107) hx hb dL_holds_100 (by decide) (fun c133 => absurd (congrArg nI (show (((((sm (isT (mN M) 0) (gm (mN M))) + (sm (isT (mN M) 1) (gm (mN M)))) + (sm (isT (mN M) 2) (gm (mN M)))) + (sm (isT (mN M) 3) (gm (mN M)))) + (sm (isT (mN M) 4) (gm (mN M))) : Nat) = gm (mN M) by omega)) c133) (fun _ => ?_)
  refine lv_iconst (v := 1) hx hb dL_holds_103 (by decide) ?_
  refine lv_goto (tgt := 108) hx hb dL_holds_104 (by decide) ?_
  refine lv_istore (lv' := [(8, .int 1), (7, .int (nI (cE (mN M)))), (6, .int 0), (5, .int 0), (4, .int 0), (3, .int (nI (cO (mN M)))), (2, .int (nI (f_X7_gaps (mN M)))), (1, .int (nI (gm (mN M)))), (0, .ref b)]) hx hb dL_holds_108 hl (by decide) rfl (fun ls hl => ?_)
  refine lv_iconst (v := 0) hx hb dL_holds_110 (by decide) ?_
  refine lv_istore (lv' := [(9, .int 0), (8, .int 1), (7, .int (nI (cE (mN M)))), (6, .int 0), (5, .int 0), (4, .int 0), (3, .int (nI (cO (mN M)))), (2, .int (nI (f_X7_gaps (mN M)))), (1, .int (nI (gm (mN M)))), (0, .ref b)]) hx hb dL_holds_111 hl (by decide) rfl (fun ls hl => ?_)
  refine W.widen (k := 9 + 17 * 0) (n := 54 + 102 * 0) (Nat.le_of_ble_eq_true rfl) (Nat.le_of_ble_eq_true rfl) ?_
  exact cut113 (40 + 1) 0 (by omega) (by omega) _ _ _ hP hS (lv_sub hl [9, 8, 7, 6, 5, 4, 3, 2, 1, 0] rfl)
