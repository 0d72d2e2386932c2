set_option maxHeartbeats 4000000 in
set_option maxRecDepth 100000 in
theorem cs_append {l : Launch} {G : GG} {p : Program} {e : Env} {s : State} {m : MethodId} {below : List Frame} {meth : Method} {cd : Code} {sc L : Nat} {xs : Nat → Int32} (hC : LC l G p s m meth cd sc L xs) {P : Cx → Mo → Prop} (E : L27 P) {b k : Nat} {X : Cx} {f : Nat → Int64} {M : Mo} {H : Heap} {locs : List Loc} {cells slots : Nat} {ls : Array Slot} {Q : State → Prop} (hb0 : s.heap.size ≤ b) (hcs : cells ≤ 3000) (hss : slots ≤ 30000) (hk4 : k + 4 ≤ L) (hP : LX G b (X, f) M H) (hR : P X M) (hS : va_S (frm s.heap.size) s.heap H locs) (hl : lv_has ls 7 [(0, .ref sc), (1, .ref b), (2, .ref (b + 170)), (3, .ref (b + 178)), (4, .int (nI k))])
    (kk : ∀ (S1 : Wx) (M1 : Mo) (H1 : Heap) (locs1 : List Loc) (ls1 : Array Slot) (cells1 slots1 : Nat), P S1.1 M1 → LX G b S1 M1 H1 → va_S (frm s.heap.size) s.heap H1 locs1 → lv_has ls1 7 [(0, .ref sc), (1, .ref b), (2, .ref (b + 170)), (3, .ref (b + 178)), (4, .int (nI k))] → cells1 ≤ cells + 1 → slots1 ≤ slots + 6 → W p l e room_1 s m #[.ref sc] below meth cd H1 locs1 cells1 slots1 Q (F0 m 1806 ls1 [])) : W p l e room_1 s m #[.ref sc] below meth cd H locs cells slots Q (F0 m 160 ls []) := by
  obtain ⟨hx, hb, hr, hml, hown, hts, hX, hsc, hlocks, hO, hTh, hN, hAO, hst, hL⟩ := hC
  refine lv_aload_n hx hb dL_law_160 rfl (lv_at hl 1 rfl) ?_
  refine lv_aload_n hx hb dL_law_161 rfl (lv_at hl 0 rfl) ?_
  refine lv_iload hx hb dL_law_162 (lv_at hl 4 rfl) ?_
  refine lv_iconst (v := 1) hx hb dL_law_164 (by decide) ?_
  refine iadd_n (a := k) (b := 1) hx hb dL_law_165 ?_
  refine sld_n (j := k + 1) hx hb hX hsc hS (by omega) hL dL_law_166 ?_
  refine lv_aload_n hx hb dL_law_167 rfl (lv_at hl 3 rfl) ?_
  refine cl_mx (xSW (A := wfr b (b + 178)) (As := [.ref b, .int (xs (k + 1)), .ref (b + 178)]) (rest := []) ⟨hx, hb, hml, hown, hts⟩ (c_L_append l G b (b + 178) (X, f) (xs (k + 1)) hst (.inr (by omega))) (vx_cwSW 3 hts gL_law_L_append rfl rfl rfl (by decide +kernel) ⟨Nat.le_of_ble_eq_true rfl, Nat.le_of_ble_eq_true rfl⟩) hP.1 hO (fun U hU hW => (hTh.kept hW (by rw [hU]; exact hS.2.1)).sub (fun q hq => by rcases hq with hq | hq; exact Nat.le_trans hb0 hq.1; exact Nat.le_trans hb0 (by omega))) hN rfl hl.1 (Nat.le_of_ble_eq_true rfl) dL_law_168 ⟨by show cells + 0 + 1 ≤ 601024; omega, by show slots + 0 + 6 ≤ 7293034; omega⟩) (fun H1 L1 hP1 hz1 hk1 hL1 => ?_)
  have hS := S_app hS hz1 hk1 hL1 (fun q hq => by rcases hq with hq | hq; exact Nat.le_trans hb0 hq.1; exact Nat.le_trans hb0 (by omega))
  have hP := lx_w hP hP1 hk1
  refine lv_istore (lv' := [(5, .int ((wr "java/lang/IllegalArgumentException" (h_X6_append X (xs (k + 1))) (X, f)).1)), (0, .ref sc), (1, .ref b), (2, .ref (b + 170)), (3, .ref (b + 178)), (4, .int (nI k))]) hx hb dL_law_171 hl (by decide) rfl (fun ls hl => ?_)
  refine lv_aload_n hx hb dL_law_173 rfl (lv_at hl 3 rfl) ?_
  refine lv_aload_n hx hb dL_law_174 rfl (lv_at hl 1 rfl) ?_
  refine lv_iload hx hb dL_law_175 (lv_at hl 5 rfl) ?_
  refine lv_iconst (v := 1) hx hb dL_law_177 (by decide) ?_
  refine iadd_n (a := k) (b := 1) hx hb dL_law_178 ?_
  refine sld_n (j := k + 1) hx hb hX hsc hS (by omega) hL dL_law_179 ?_
  refine cl_mi (rV (As := [.int (xs (k + 1))]) (rest := []) ⟨hx, hb, hml, hown, hts⟩ (c_X7_append l G (b + 170) M (xs (k + 1)) (E.mz hR) (E.mz120 hR)) (cwV 1 hts gL_law_X7_append rfl rfl rfl (by decide +kernel) ⟨Nat.le_of_ble_eq_true rfl, Nat.le_of_ble_eq_true rfl⟩) (md_recv hO hP.2) hP.2 hO rfl hl.1 (Nat.le_of_ble_eq_true rfl) dL_law_180 ⟨by show cells + 1 + 0 ≤ 601024; omega, by show slots + 6 + 0 ≤ 7293034; omega⟩) hS (fun q hq => Nat.le_trans hb0 (Nat.le_trans (Nat.le_add_right _ _) hq.1)) (fun H2 locs2 hP2 hz2 hk2 hS => ?_)
  have hP := lx_m hP hP2 hk2
  have hop := E.o_append (f := f) (xs (k + 1)) hR
  refine lv_istore (lv' := [(6, .int ((h_X7_append M (xs (k + 1))).1)), (5, .int ((wr "java/lang/IllegalArgumentException" (h_X6_append X (xs (k + 1))) (X, f)).1)), (0, .ref sc), (1, .ref b), (2, .ref (b + 170)), (3, .ref (b + 178)), (4, .int (nI k))]) hx hb dL_law_183 hl (by decide) rfl (fun ls hl => ?_)
  refine lv_aload_n hx hb dL_law_185 rfl (lv_at hl 4 rfl) ?_
  refine cl_pi (rV (As := []) (rest := []) ⟨hx, hb, hml, hown, hts⟩ (c_X7_thrown l G (b + 170) ((h_X7_append M (xs (k + 1))).2)) (cwV 0 hts gL_law_X7_thrown rfl rfl rfl (by decide +kernel) ⟨Nat.le_of_ble_eq_true rfl, Nat.le_of_ble_eq_true rfl⟩) (md_recv hO hP.2) hP.2 hO rfl hl.1 (Nat.le_of_ble_eq_true rfl) dL_law_186 ⟨by show cells + 1 + 0 ≤ 601024; omega, by show slots + 6 + 0 ≤ 7293034; omega⟩) ?_
  refine lv_iload hx hb dL_law_189 (lv_at hl 1 rfl) ?_
  refine lv_icmp_eq (tgt := 196) hx hb dL_law_191 (by decide) (fun c3 => ?_) (fun c3 => ?_)
  rotate_left
  · exact absurd hop.1 c3
  refine lv_iload hx hb dL_law_196 (lv_at hl 1 rfl) ?_
  refine lv_if_ne (tgt := 213) hx hb dL_law_198 (by decide) (fun c4 => ?_) (fun c4 => ?_)
  · refine lv_goto (tgt := 1806) hx hb dL_law_213 (by decide) ?_
    exact kk _ _ _ _ _ _ _ hop.2.1 hP hS (lv_sub hl [2, 3, 4, 5, 6] rfl) (by omega) (by omega)
  · refine lv_aload_n hx hb dL_law_201 rfl (lv_at hl 5 rfl) ?_
    refine lv_iconst (v := 0) hx hb dL_law_202 (by decide) ?_
    refine va_lald hx hb hO.1 hP.1.2 0 4 rfl rfl (by unfold vp_in; decide) dL_law_203 ?_
    refine lv_iload hx hb dL_law_204 (lv_at hl 0 rfl) ?_
    refine lv_i2l (v := ((h_X7_append M (xs (k + 1))).1).toInt64) hx hb dL_law_206 rfl ?_
    refine W.lcmp hx hb dL_law_207 ?_
    refine lv_if_eq (tgt := 213) hx hb dL_law_208 (by decide) (fun c5 => ?_) (fun c5 => ?_)
    rotate_left
    · exact absurd (by rw [hop.2.2 c4]; exact lg_self _) c5
    refine lv_goto (tgt := 1806) hx hb dL_law_213 (by decide) ?_
    exact kk _ _ _ _ _ _ _ hop.2.1 hP hS (lv_sub hl [2, 3, 4, 5, 6] rfl) (by omega) (by omega)

set_option maxHeartbeats 4000000 in
set_option maxRecDepth 100000 in
theorem cs_clearText {l : Launch} {G : GG} {p : Program} {e : Env} {s : State} {m : MethodId} {below : List Frame} {meth : Method} {cd : Code} {sc L : Nat} {xs : Nat → Int32} (hC : LC l G p s m meth cd sc L xs) {P : Cx → Mo → Prop} (E : L27 P) {b k : Nat} {X : Cx} {f : Nat → Int64} {M : Mo} {H : Heap} {locs : List Loc} {cells slots : Nat} {ls : Array Slot} {Q : State → Prop} (hb0 : s.heap.size ≤ b) (hcs : cells ≤ 3000) (hss : slots ≤ 30000) (hk4 : k + 4 ≤ L) (hP : LX G b (X, f) M H) (hR : P X M) (hS : va_S (frm s.heap.size) s.heap H locs) (hl : lv_has ls 7 [(0, .ref sc), (1, .ref b), (2, .ref (b + 170)), (3, .ref (b + 178)), (4, .int (nI k))])
    (kk : ∀ (S1 : Wx) (M1 : Mo) (H1 : Heap) (locs1 : List Loc) (ls1 : Array Slot) (cells1 slots1 : Nat), P S1.1 M1 → LX G b S1 M1 H1 → va_S (frm s.heap.size) s.heap H1 locs1 → lv_has ls1 7 [(0, .ref sc), (1, .ref b), (2, .ref (b + 170)), (3, .ref (b + 178)), (4, .int (nI k))] → cells1 ≤ cells + 1 → slots1 ≤ slots + 6 → W p l e room_1 s m #[.ref sc] below meth cd H1 locs1 cells1 slots1 Q (F0 m 1806 ls1 [])) : W p l e room_1 s m #[.ref sc] below meth cd H locs cells slots Q (F0 m 216 ls []) := by
  obtain ⟨hx, hb, hr, hml, hown, hts, hX, hsc, hlocks, hO, hTh, hN, hAO, hst, hL⟩ := hC
  refine lv_aload_n hx hb dL_law_216 rfl (lv_at hl 1 rfl) ?_
  refine cl_mi (rV (As := []) (rest := []) ⟨hx, hb, hml, hown, hts⟩ (c_X6_clearText l G b X) (cwV 0 hts gL_law_X6_clearText rfl rfl rfl (by decide +kernel) ⟨Nat.le_of_ble_eq_true rfl, Nat.le_of_ble_eq_true rfl⟩) (cb_recv hO hP.1.1) hP.1.1 hO rfl hl.1 (Nat.le_of_ble_eq_true rfl) dL_law_217 ⟨by show cells + 0 + 0 ≤ 601024; omega, by show slots + 0 + 0 ≤ 7293034; omega⟩) hS (fun q hq => Nat.le_trans hb0 hq.1) (fun H1 locs1 hP1 hz1 hk1 hS => ?_)
  have hP := lx_x hP hP1 hk1
  refine lv_aload_n hx hb dL_law_220 rfl (lv_at hl 2 rfl) ?_
  refine cl_mi (rV (As := []) (rest := [.int ((h_X6_clearText X).1)]) ⟨hx, hb, hml, hown, hts⟩ (c_X7_clearText l G (b + 170) M) (cwV 0 hts gL_law_X7_clearText rfl rfl rfl (by decide +kernel) ⟨Nat.le_of_ble_eq_true rfl, Nat.le_of_ble_eq_true rfl⟩) (md_recv hO hP.2) hP.2 hO rfl hl.1 (Nat.le_of_ble_eq_true rfl) dL_law_221 ⟨by show cells + 0 + 0 ≤ 601024; omega, by show slots + 0 + 0 ≤ 7293034; omega⟩) hS (fun q hq => Nat.le_trans hb0 (Nat.le_trans (Nat.le_add_right _ _) hq.1)) (fun H2 locs2 hP2 hz2 hk2 hS => ?_)
  have hP := lx_m hP hP2 hk2
  refine lv_icmp_eq (tgt := 1806) hx hb dL_law_224 (by decide) (fun c3 => ?_) (fun c3 => ?_)
  rotate_left
  · exact absurd (E.o_clearText hR).1 c3
  exact kk _ _ _ _ _ _ _ (E.o_clearText hR).2 hP hS (lv_sub hl [0, 1, 2, 3, 4] rfl) (by omega) (by omega)

set_option maxHeartbeats 4000000 in
set_option maxRecDepth 100000 in
theorem cs_errorPosition {l : Launch} {G : GG} {p : Program} {e : Env} {s : State} {m : MethodId} {below : List Frame} {meth : Method} {cd : Code} {sc L : Nat} {xs : Nat → Int32} (hC : LC l G p s m meth cd sc L xs) {P : Cx → Mo → Prop} (E : L27 P) {b k : Nat} {X : Cx} {f : Nat → Int64} {M : Mo} {H : Heap} {locs : List Loc} {cells slots : Nat} {ls : Array Slot} {Q : State → Prop} (hb0 : s.heap.size ≤ b) (hcs : cells ≤ 3000) (hss : slots ≤ 30000) (hk4 : k + 4 ≤ L) (hP : LX G b (X, f) M H) (hR : P X M) (hS : va_S (frm s.heap.size) s.heap H locs) (hl : lv_has ls 7 [(0, .ref sc), (1, .ref b), (2, .ref (b + 170)), (3, .ref (b + 178)), (4, .int (nI k))])
    (kk : ∀ (S1 : Wx) (M1 : Mo) (H1 : Heap) (locs1 : List Loc) (ls1 : Array Slot) (cells1 slots1 : Nat), P S1.1 M1 → LX G b S1 M1 H1 → va_S (frm s.heap.size) s.heap H1 locs1 → lv_has ls1 7 [(0, .ref sc), (1, .ref b), (2, .ref (b + 170)), (3, .ref (b + 178)), (4, .int (nI k))] → cells1 ≤ cells + 1 → slots1 ≤ slots + 6 → W p l e room_1 s m #[.ref sc] below meth cd H1 locs1 cells1 slots1 Q (F0 m 1806 ls1 [])) : W p l e room_1 s m #[.ref sc] below meth cd H locs cells slots Q (F0 m 229 ls []) := by
  obtain ⟨hx, hb, hr, hml, hown, hts, hX, hsc, hlocks, hO, hTh, hN, hAO, hst, hL⟩ := hC
  refine lv_aload_n hx hb dL_law_229 rfl (lv_at hl 1 rfl) ?_
  refine cl_mi (rV (As := []) (rest := []) ⟨hx, hb, hml, hown, hts⟩ (c_X6_errorPosition l G b X) (cwV 0 hts gL_law_X6_errorPosition rfl rfl rfl (by decide +kernel) ⟨Nat.le_of_ble_eq_true rfl, Nat.le_of_ble_eq_true rfl⟩) (cb_recv hO hP.1.1) hP.1.1 hO rfl hl.1 (Nat.le_of_ble_eq_true rfl) dL_law_230 ⟨by show cells + 0 + 0 ≤ 601024; omega, by show slots + 0 + 0 ≤ 7293034; omega⟩) hS (fun q hq => Nat.le_trans hb0 hq.1) (fun H1 locs1 hP1 hz1 hk1 hS => ?_)
  have hP := lx_x hP hP1 hk1
  refine lv_aload_n hx hb dL_law_233 rfl (lv_at hl 2 rfl) ?_
  refine cl_mi (rV (As := []) (rest := [.int ((h_X6_errorPosition X).1)]) ⟨hx, hb, hml, hown, hts⟩ (c_X7_errorPosition l G (b + 170) M ⟨E.mz hR, E.mz120 hR⟩) (cwV 0 hts gL_law_X7_errorPosition rfl rfl rfl (by decide +kernel) ⟨Nat.le_of_ble_eq_true rfl, Nat.le_of_ble_eq_true rfl⟩) (md_recv hO hP.2) hP.2 hO rfl hl.1 (Nat.le_of_ble_eq_true rfl) dL_law_234 ⟨by show cells + 0 + 0 ≤ 601024; omega, by show slots + 0 + 0 ≤ 7293034; omega⟩) hS (fun q hq => Nat.le_trans hb0 (Nat.le_trans (Nat.le_add_right _ _) hq.1)) (fun H2 locs2 hP2 hz2 hk2 hS => ?_)
  have hP := lx_m hP hP2 hk2
  refine lv_icmp_eq (tgt := 1806) hx hb dL_law_237 (by decide) (fun c3 => ?_) (fun c3 => ?_)
  rotate_left
  · exact absurd (E.o_errorPosition hR).1 c3
  exact kk _ _ _ _ _ _ _ (E.o_errorPosition hR).2 hP hS (lv_sub hl [0, 1, 2, 3, 4] rfl) (by omega) (by omega)

set_option maxHeartbeats 4000000 in
set_option maxRecDepth 100000 in
theorem cs_load {l : Launch} {G : GG} {p : Program} {e : Env} {s : State} {m : MethodId} {below : List Frame} {meth : Method} {cd : Code} {sc L : Nat} {xs : Nat → Int32} (hC : LC l G p s m meth cd sc L xs) {P : Cx → Mo → Prop} (E : L27 P) {b k : Nat} {X : Cx} {f : Nat → Int64} {M : Mo} {H : Heap} {locs : List Loc} {cells slots : Nat} {ls : Array Slot} {Q : State → Prop} (hb0 : s.heap.size ≤ b) (hcs : cells ≤ 3000) (hss : slots ≤ 30000) (hk4 : k + 4 ≤ L) (hP : LX G b (X, f) M H) (hR : P X M) (hS : va_S (frm s.heap.size) s.heap H locs) (hl : lv_has ls 7 [(0, .ref sc), (1, .ref b), (2, .ref (b + 170)), (3, .ref (b + 178)), (4, .int (nI k))])
    (kk : ∀ (S1 : Wx) (M1 : Mo) (H1 : Heap) (locs1 : List Loc) (ls1 : Array Slot) (cells1 slots1 : Nat), P S1.1 M1 → LX G b S1 M1 H1 → va_S (frm s.heap.size) s.heap H1 locs1 → lv_has ls1 7 [(0, .ref sc), (1, .ref b), (2, .ref (b + 170)), (3, .ref (b + 178)), (4, .int (nI k))] → cells1 ≤ cells + 1 → slots1 ≤ slots + 6 → W p l e room_1 s m #[.ref sc] below meth cd H1 locs1 cells1 slots1 Q (F0 m 1806 ls1 [])) : W p l e room_1 s m #[.ref sc] below meth cd H locs cells slots Q (F0 m 242 ls []) := by
  obtain ⟨hx, hb, hr, hml, hown, hts, hX, hsc, hlocks, hO, hTh, hN, hAO, hst, hL⟩ := hC
  refine lv_aload_n hx hb dL_law_242 rfl (lv_at hl 1 rfl) ?_
  refine lv_aload_n hx hb dL_law_243 rfl (lv_at hl 3 rfl) ?_
  refine cl_mx (xSW (A := wfr b (b + 178)) (As := [.ref b, .ref (b + 178)]) (rest := []) ⟨hx, hb, hml, hown, hts⟩ (c_L_load l G b (b + 178) (X, f)  hst (.inr (by omega))) (vx_cwSW 2 hts gL_law_L_load rfl rfl rfl (by decide +kernel) ⟨Nat.le_of_ble_eq_true rfl, Nat.le_of_ble_eq_true rfl⟩) hP.1 hO (fun U hU hW => (hTh.kept hW (by rw [hU]; exact hS.2.1)).sub (fun q hq => by rcases hq with hq | hq; exact Nat.le_trans hb0 hq.1; exact Nat.le_trans hb0 (by omega))) hN rfl hl.1 (Nat.le_of_ble_eq_true rfl) dL_law_244 ⟨by show cells + 0 + 1 ≤ 601024; omega, by show slots + 0 + 6 ≤ 7293034; omega⟩) (fun H1 L1 hP1 hz1 hk1 hL1 => ?_)
  have hS := S_app hS hz1 hk1 hL1 (fun q hq => by rcases hq with hq | hq; exact Nat.le_trans hb0 hq.1; exact Nat.le_trans hb0 (by omega))
  have hP := lx_w hP hP1 hk1
  refine lv_istore (lv' := [(5, .int ((wr "java/lang/IllegalStateException" (h_X6_load X ) (X, f)).1)), (0, .ref sc), (1, .ref b), (2, .ref (b + 170)), (3, .ref (b + 178)), (4, .int (nI k))]) hx hb dL_law_247 hl (by decide) rfl (fun ls hl => ?_)
  refine lv_aload_n hx hb dL_law_249 rfl (lv_at hl 3 rfl) ?_
  refine cl_mi (rV (As := []) (rest := []) ⟨hx, hb, hml, hown, hts⟩ (c_X7_load l G (b + 170) M ⟨E.mz hR, E.mz120 hR⟩) (cwV 0 hts gL_law_X7_load rfl rfl rfl (by decide +kernel) ⟨Nat.le_of_ble_eq_true rfl, Nat.le_of_ble_eq_true rfl⟩) (md_recv hO hP.2) hP.2 hO rfl hl.1 (Nat.le_of_ble_eq_true rfl) dL_law_250 ⟨by show cells + 1 + 0 ≤ 601024; omega, by show slots + 6 + 0 ≤ 7293034; omega⟩) hS (fun q hq => Nat.le_trans hb0 (Nat.le_trans (Nat.le_add_right _ _) hq.1)) (fun H2 locs2 hP2 hz2 hk2 hS => ?_)
  have hP := lx_m hP hP2 hk2
  have hop := E.o_load (f := f)  hR
  refine lv_istore (lv' := [(6, .int ((h_X7_load M).1)), (5, .int ((wr "java/lang/IllegalStateException" (h_X6_load X ) (X, f)).1)), (0, .ref sc), (1, .ref b), (2, .ref (b + 170)), (3, .ref (b + 178)), (4, .int (nI k))]) hx hb dL_law_253 hl (by decide) rfl (fun ls hl => ?_)
  refine lv_aload_n hx hb dL_law_255 rfl (lv_at hl 4 rfl) ?_
  refine cl_pi (rV (As := []) (rest := []) ⟨hx, hb, hml, hown, hts⟩ (c_X7_thrown l G (b + 170) ((h_X7_load M).2)) (cwV 0 hts gL_law_X7_thrown rfl rfl rfl (by decide +kernel) ⟨Nat.le_of_ble_eq_true rfl, Nat.le_of_ble_eq_true rfl⟩) (md_recv hO hP.2) hP.2 hO rfl hl.1 (Nat.le_of_ble_eq_true rfl) dL_law_256 ⟨by show cells + 1 + 0 ≤ 601024; omega, by show slots + 6 + 0 ≤ 7293034; omega⟩) ?_
  refine lv_iload hx hb dL_law_259 (lv_at hl 1 rfl) ?_
  refine lv_icmp_eq (tgt := 266) hx hb dL_law_261 (by decide) (fun c3 => ?_) (fun c3 => ?_)
  rotate_left
  · exact absurd hop.1 c3
  refine lv_iload hx hb dL_law_266 (lv_at hl 1 rfl) ?_
  refine lv_if_ne (tgt := 283) hx hb dL_law_268 (by decide) (fun c4 => ?_) (fun c4 => ?_)
  · refine lv_goto (tgt := 1806) hx hb dL_law_283 (by decide) ?_
    exact kk _ _ _ _ _ _ _ hop.2.1 hP hS (lv_sub hl [2, 3, 4, 5, 6] rfl) (by omega) (by omega)
  · refine lv_aload_n hx hb dL_law_271 rfl (lv_at hl 5 rfl) ?_
    refine lv_iconst (v := 0) hx hb dL_law_272 (by decide) ?_
    refine va_lald hx hb hO.1 hP.1.2 0 4 rfl rfl (by unfold vp_in; decide) dL_law_273 ?_
    refine lv_iload hx hb dL_law_274 (lv_at hl 0 rfl) ?_
    refine lv_i2l (v := ((h_X7_load M).1).toInt64) hx hb dL_law_276 rfl ?_
    refine W.lcmp hx hb dL_law_277 ?_
    refine lv_if_eq (tgt := 283) hx hb dL_law_278 (by decide) (fun c5 => ?_) (fun c5 => ?_)
    rotate_left
    · exact absurd (by rw [hop.2.2 c4]; exact lg_self _) c5
    refine lv_goto (tgt := 1806) hx hb dL_law_283 (by decide) ?_
    exact kk _ _ _ _ _ _ _ hop.2.1 hP hS (lv_sub hl [2, 3, 4, 5, 6] rfl) (by omega) (by omega)

set_option maxHeartbeats 4000000 in
set_option maxRecDepth 100000 in
theorem cs_about {l : Launch} {G : GG} {p : Program} {e : Env} {s : State} {m : MethodId} {below : List Frame} {meth : Method} {cd : Code} {sc L : Nat} {xs : Nat → Int32} (hC : LC l G p s m meth cd sc L xs) {P : Cx → Mo → Prop} (E : L27 P) {b k : Nat} {X : Cx} {f : Nat → Int64} {M : Mo} {H : Heap} {locs : List Loc} {cells slots : Nat} {ls : Array Slot} {Q : State → Prop} (hb0 : s.heap.size ≤ b) (hcs : cells ≤ 3000) (hss : slots ≤ 30000) (hk4 : k + 4 ≤ L) (hP : LX G b (X, f) M H) (hR : P X M) (hS : va_S (frm s.heap.size) s.heap H locs) (hl : lv_has ls 7 [(0, .ref sc), (1, .ref b), (2, .ref (b + 170)), (3, .ref (b + 178)), (4, .int (nI k))])
    (kk : ∀ (S1 : Wx) (M1 : Mo) (H1 : Heap) (locs1 : List Loc) (ls1 : Array Slot) (cells1 slots1 : Nat), P S1.1 M1 → LX G b S1 M1 H1 → va_S (frm s.heap.size) s.heap H1 locs1 → lv_has ls1 7 [(0, .ref sc), (1, .ref b), (2, .ref (b + 170)), (3, .ref (b + 178)), (4, .int (nI k))] → cells1 ≤ cells + 1 → slots1 ≤ slots + 6 → W p l e room_1 s m #[.ref sc] below meth cd H1 locs1 cells1 slots1 Q (F0 m 1806 ls1 [])) : W p l e room_1 s m #[.ref sc] below meth cd H locs cells slots Q (F0 m 286 ls []) := by
  obtain ⟨hx, hb, hr, hml, hown, hts, hX, hsc, hlocks, hO, hTh, hN, hAO, hst, hL⟩ := hC
  refine lv_aload_n hx hb dL_law_286 rfl (lv_at hl 1 rfl) ?_
  refine lv_aload_n hx hb dL_law_287 rfl (lv_at hl 0 rfl) ?_
  refine lv_iload hx hb dL_law_288 (lv_at hl 4 rfl) ?_
  refine lv_iconst (v := 1) hx hb dL_law_290 (by decide) ?_
  refine iadd_n (a := k) (b := 1) hx hb dL_law_291 ?_
  refine sld_n (j := k + 1) hx hb hX hsc hS (by omega) hL dL_law_292 ?_
  refine lv_aload_n hx hb dL_law_293 rfl (lv_at hl 3 rfl) ?_
  refine cl_mx (xSW (A := wfr b (b + 178)) (As := [.ref b, .int (xs (k + 1)), .ref (b + 178)]) (rest := []) ⟨hx, hb, hml, hown, hts⟩ (c_L_about l G b (b + 178) (X, f) (xs (k + 1)) hst (.inr (by omega))) (vx_cwSW 3 hts gL_law_L_about rfl rfl rfl (by decide +kernel) ⟨Nat.le_of_ble_eq_true rfl, Nat.le_of_ble_eq_true rfl⟩) hP.1 hO (fun U hU hW => (hTh.kept hW (by rw [hU]; exact hS.2.1)).sub (fun q hq => by rcases hq with hq | hq; exact Nat.le_trans hb0 hq.1; exact Nat.le_trans hb0 (by omega))) hN rfl hl.1 (Nat.le_of_ble_eq_true rfl) dL_law_294 ⟨by show cells + 0 + 1 ≤ 601024; omega, by show slots + 0 + 6 ≤ 7293034; omega⟩) (fun H1 L1 hP1 hz1 hk1 hL1 => ?_)
  have hS := S_app hS hz1 hk1 hL1 (fun q hq => by rcases hq with hq | hq; exact Nat.le_trans hb0 hq.1; exact Nat.le_trans hb0 (by omega))
  have hP := lx_w hP hP1 hk1
  refine lv_istore (lv' := [(5, .int ((wr "java/lang/IllegalArgumentException" (h_X6_about X (xs (k + 1))) (X, f)).1)), (0, .ref sc), (1, .ref b), (2, .ref (b + 170)), (3, .ref (b + 178)), (4, .int (nI k))]) hx hb dL_law_297 hl (by decide) rfl (fun ls hl => ?_)
  refine lv_aload_n hx hb dL_law_299 rfl (lv_at hl 3 rfl) ?_
  refine lv_aload_n hx hb dL_law_300 rfl (lv_at hl 1 rfl) ?_
  refine lv_iload hx hb dL_law_301 (lv_at hl 5 rfl) ?_
  refine lv_iconst (v := 1) hx hb dL_law_303 (by decide) ?_
  refine iadd_n (a := k) (b := 1) hx hb dL_law_304 ?_
  refine sld_n (j := k + 1) hx hb hX hsc hS (by omega) hL dL_law_305 ?_
  refine cl_mi (rV (As := [.int (xs (k + 1))]) (rest := []) ⟨hx, hb, hml, hown, hts⟩ (c_X7_about l G (b + 170) M (xs (k + 1)) (E.ri hR)) (cwV 1 hts gL_law_X7_about rfl rfl rfl (by decide +kernel) ⟨Nat.le_of_ble_eq_true rfl, Nat.le_of_ble_eq_true rfl⟩) (md_recv hO hP.2) hP.2 hO rfl hl.1 (Nat.le_of_ble_eq_true rfl) dL_law_306 ⟨by show cells + 1 + 0 ≤ 601024; omega, by show slots + 6 + 0 ≤ 7293034; omega⟩) hS (fun q hq => Nat.le_trans hb0 (Nat.le_trans (Nat.le_add_right _ _) hq.1)) (fun H2 locs2 hP2 hz2 hk2 hS => ?_)
  have hP := lx_m hP hP2 hk2
  have hop := E.o_about (f := f) (xs (k + 1)) hR
  refine lv_istore (lv' := [(6, .int ((h_X7_about M (xs (k + 1))).1)), (5, .int ((wr "java/lang/IllegalArgumentException" (h_X6_about X (xs (k + 1))) (X, f)).1)), (0, .ref sc), (1, .ref b), (2, .ref (b + 170)), (3, .ref (b + 178)), (4, .int (nI k))]) hx hb dL_law_309 hl (by decide) rfl (fun ls hl => ?_)
  refine lv_aload_n hx hb dL_law_311 rfl (lv_at hl 4 rfl) ?_
  refine cl_pi (rV (As := []) (rest := []) ⟨hx, hb, hml, hown, hts⟩ (c_X7_thrown l G (b + 170) ((h_X7_about M (xs (k + 1))).2)) (cwV 0 hts gL_law_X7_thrown rfl rfl rfl (by decide +kernel) ⟨Nat.le_of_ble_eq_true rfl, Nat.le_of_ble_eq_true rfl⟩) (md_recv hO hP.2) hP.2 hO rfl hl.1 (Nat.le_of_ble_eq_true rfl) dL_law_312 ⟨by show cells + 1 + 0 ≤ 601024; omega, by show slots + 6 + 0 ≤ 7293034; omega⟩) ?_
  refine lv_iload hx hb dL_law_315 (lv_at hl 1 rfl) ?_
  refine lv_icmp_eq (tgt := 322) hx hb dL_law_317 (by decide) (fun c3 => ?_) (fun c3 => ?_)
  rotate_left
  · exact absurd hop.1 c3
  refine lv_iload hx hb dL_law_322 (lv_at hl 1 rfl) ?_
  refine lv_if_ne (tgt := 339) hx hb dL_law_324 (by decide) (fun c4 => ?_) (fun c4 => ?_)
  · refine lv_goto (tgt := 1806) hx hb dL_law_339 (by decide) ?_
    exact kk _ _ _ _ _ _ _ hop.2.1 hP hS (lv_sub hl [2, 3, 4, 5, 6] rfl) (by omega) (by omega)
  · refine lv_aload_n hx hb dL_law_327 rfl (lv_at hl 5 rfl) ?_
    refine lv_iconst (v := 0) hx hb dL_law_328 (by decide) ?_
    refine va_lald hx hb hO.1 hP.1.2 0 4 rfl rfl (by unfold vp_in; decide) dL_law_329 ?_
    refine lv_iload hx hb dL_law_330 (lv_at hl 0 rfl) ?_
    refine lv_i2l (v := ((h_X7_about M (xs (k + 1))).1).toInt64) hx hb dL_law_332 rfl ?_
    refine W.lcmp hx hb dL_law_333 ?_
    refine lv_if_eq (tgt := 339) hx hb dL_law_334 (by decide) (fun c5 => ?_) (fun c5 => ?_)
    rotate_left
    · exact absurd (by rw [hop.2.2 c4]; exact lg_self _) c5
    refine lv_goto (tgt := 1806) hx hb dL_law_339 (by decide) ?_
    exact kk _ _ _ _ _ _ _ hop.2.1 hP hS (lv_sub hl [2, 3, 4, 5, 6] rfl) (by omega) (by omega)

set_option maxHeartbeats 4000000 in
set_option maxRecDepth 100000 in
theorem cs_carOf {l : Launch} {G : GG} {p : Program} {e : Env} {s : State} {m : MethodId} {below : List Frame} {meth : Method} {cd : Code} {sc L : Nat} {xs : Nat → Int32} (hC : LC l G p s m meth cd sc L xs) {P : Cx → Mo → Prop} (E : L27 P) {b k : Nat} {X : Cx} {f : Nat → Int64} {M : Mo} {H : Heap} {locs : List Loc} {cells slots : Nat} {ls : Array Slot} {Q : State → Prop} (hb0 : s.heap.size ≤ b) (hcs : cells ≤ 3000) (hss : slots ≤ 30000) (hk4 : k + 4 ≤ L) (hP : LX G b (X, f) M H) (hR : P X M) (hS : va_S (frm s.heap.size) s.heap H locs) (hl : lv_has ls 7 [(0, .ref sc), (1, .ref b), (2, .ref (b + 170)), (3, .ref (b + 178)), (4, .int (nI k))])
    (kk : ∀ (S1 : Wx) (M1 : Mo) (H1 : Heap) (locs1 : List Loc) (ls1 : Array Slot) (cells1 slots1 : Nat), P S1.1 M1 → LX G b S1 M1 H1 → va_S (frm s.heap.size) s.heap H1 locs1 → lv_has ls1 7 [(0, .ref sc), (1, .ref b), (2, .ref (b + 170)), (3, .ref (b + 178)), (4, .int (nI k))] → cells1 ≤ cells + 1 → slots1 ≤ slots + 6 → W p l e room_1 s m #[.ref sc] below meth cd H1 locs1 cells1 slots1 Q (F0 m 1806 ls1 [])) : W p l e room_1 s m #[.ref sc] below meth cd H locs cells slots Q (F0 m 342 ls []) := by
  obtain ⟨hx, hb, hr, hml, hown, hts, hX, hsc, hlocks, hO, hTh, hN, hAO, hst, hL⟩ := hC
  refine lv_aload_n hx hb dL_law_342 rfl (lv_at hl 1 rfl) ?_
  refine lv_aload_n hx hb dL_law_343 rfl (lv_at hl 0 rfl) ?_
  refine lv_iload hx hb dL_law_344 (lv_at hl 4 rfl) ?_
  refine lv_iconst (v := 1) hx hb dL_law_346 (by decide) ?_
  refine iadd_n (a := k) (b := 1) hx hb dL_law_347 ?_
  refine sld_n (j := k + 1) hx hb hX hsc hS (by omega) hL dL_law_348 ?_
  refine lv_aload_n hx hb dL_law_349 rfl (lv_at hl 0 rfl) ?_
  refine lv_iload hx hb dL_law_350 (lv_at hl 4 rfl) ?_
  refine lv_iconst (v := 2) hx hb dL_law_352 (by decide) ?_
  refine iadd_n (a := k) (b := 2) hx hb dL_law_353 ?_
  refine sld_n (j := k + 2) hx hb hX hsc hS (by omega) hL dL_law_354 ?_
  refine lv_aload_n hx hb dL_law_355 rfl (lv_at hl 3 rfl) ?_
  refine cl_mx (xSW (A := wfr b (b + 178)) (As := [.ref b, .int (xs (k + 1)), .int (xs (k + 2)), .ref (b + 178)]) (rest := []) ⟨hx, hb, hml, hown, hts⟩ (c_L_carOf l G b (b + 178) (X, f) (xs (k + 1)) (xs (k + 2)) hst (.inr (by omega))) (vx_cwSW 4 hts gL_law_L_carOf rfl rfl rfl (by decide +kernel) ⟨Nat.le_of_ble_eq_true rfl, Nat.le_of_ble_eq_true rfl⟩) hP.1 hO (fun U hU hW => (hTh.kept hW (by rw [hU]; exact hS.2.1)).sub (fun q hq => by rcases hq with hq | hq; exact Nat.le_trans hb0 hq.1; exact Nat.le_trans hb0 (by omega))) hN rfl hl.1 (Nat.le_of_ble_eq_true rfl) dL_law_356 ⟨by show cells + 0 + 1 ≤ 601024; omega, by show slots + 0 + 6 ≤ 7293034; omega⟩) (fun H1 L1 hP1 hz1 hk1 hL1 => ?_)
  have hS := S_app hS hz1 hk1 hL1 (fun q hq => by rcases hq with hq | hq; exact Nat.le_trans hb0 hq.1; exact Nat.le_trans hb0 (by omega))
  have hP := lx_w hP hP1 hk1
  refine lv_istore (lv' := [(5, .int ((wr "java/lang/IndexOutOfBoundsException" (h_X6_carOf X (xs (k + 1)) (xs (k + 2))) (X, f)).1)), (0, .ref sc), (1, .ref b), (2, .ref (b + 170)), (3, .ref (b + 178)), (4, .int (nI k))]) hx hb dL_law_359 hl (by decide) rfl (fun ls hl => ?_)
  refine lv_aload_n hx hb dL_law_361 rfl (lv_at hl 3 rfl) ?_
  refine lv_aload_n hx hb dL_law_362 rfl (lv_at hl 1 rfl) ?_
  refine lv_iload hx hb dL_law_363 (lv_at hl 5 rfl) ?_
  refine lv_iconst (v := 1) hx hb dL_law_365 (by decide) ?_
  refine iadd_n (a := k) (b := 1) hx hb dL_law_366 ?_
  refine sld_n (j := k + 1) hx hb hX hsc hS (by omega) hL dL_law_367 ?_
  refine lv_aload_n hx hb dL_law_368 rfl (lv_at hl 1 rfl) ?_
  refine lv_iload hx hb dL_law_369 (lv_at hl 5 rfl) ?_
  refine lv_iconst (v := 2) hx hb dL_law_371 (by decide) ?_
  refine iadd_n (a := k) (b := 2) hx hb dL_law_372 ?_
  refine sld_n (j := k + 2) hx hb hX hsc hS (by omega) hL dL_law_373 ?_
  refine cl_mi (rV (As := [.int (xs (k + 1)), .int (xs (k + 2))]) (rest := []) ⟨hx, hb, hml, hown, hts⟩ (c_X7_carOf l G (b + 170) M (xs (k + 1)) (xs (k + 2)) (E.ri hR)) (cwV 2 hts gL_law_X7_carOf rfl rfl rfl (by decide +kernel) ⟨Nat.le_of_ble_eq_true rfl, Nat.le_of_ble_eq_true rfl⟩) (md_recv hO hP.2) hP.2 hO rfl hl.1 (Nat.le_of_ble_eq_true rfl) dL_law_374 ⟨by show cells + 1 + 0 ≤ 601024; omega, by show slots + 6 + 0 ≤ 7293034; omega⟩) hS (fun q hq => Nat.le_trans hb0 (Nat.le_trans (Nat.le_add_right _ _) hq.1)) (fun H2 locs2 hP2 hz2 hk2 hS => ?_)
  have hP := lx_m hP hP2 hk2
  have hop := E.o_carOf (f := f) (xs (k + 1)) (xs (k + 2)) hR
  refine lv_istore (lv' := [(6, .int ((h_X7_carOf M (xs (k + 1)) (xs (k + 2))).1)), (5, .int ((wr "java/lang/IndexOutOfBoundsException" (h_X6_carOf X (xs (k + 1)) (xs (k + 2))) (X, f)).1)), (0, .ref sc), (1, .ref b), (2, .ref (b + 170)), (3, .ref (b + 178)), (4, .int (nI k))]) hx hb dL_law_377 hl (by decide) rfl (fun ls hl => ?_)
  refine lv_aload_n hx hb dL_law_379 rfl (lv_at hl 4 rfl) ?_
  refine cl_pi (rV (As := []) (rest := []) ⟨hx, hb, hml, hown, hts⟩ (c_X7_thrown l G (b + 170) ((h_X7_carOf M (xs (k + 1)) (xs (k + 2))).2)) (cwV 0 hts gL_law_X7_thrown rfl rfl rfl (by decide +kernel) ⟨Nat.le_of_ble_eq_true rfl, Nat.le_of_ble_eq_true rfl⟩) (md_recv hO hP.2) hP.2 hO rfl hl.1 (Nat.le_of_ble_eq_true rfl) dL_law_380 ⟨by show cells + 1 + 0 ≤ 601024; omega, by show slots + 6 + 0 ≤ 7293034; omega⟩) ?_
  refine lv_iload hx hb dL_law_383 (lv_at hl 1 rfl) ?_
  refine lv_icmp_eq (tgt := 390) hx hb dL_law_385 (by decide) (fun c3 => ?_) (fun c3 => ?_)
  rotate_left
  · exact absurd hop.1 c3
  refine lv_iload hx hb dL_law_390 (lv_at hl 1 rfl) ?_
  refine lv_if_ne (tgt := 407) hx hb dL_law_392 (by decide) (fun c4 => ?_) (fun c4 => ?_)
  · refine lv_goto (tgt := 1806) hx hb dL_law_407 (by decide) ?_
    exact kk _ _ _ _ _ _ _ hop.2.1 hP hS (lv_sub hl [2, 3, 4, 5, 6] rfl) (by omega) (by omega)
  · refine lv_aload_n hx hb dL_law_395 rfl (lv_at hl 5 rfl) ?_
    refine lv_iconst (v := 0) hx hb dL_law_396 (by decide) ?_
    refine va_lald hx hb hO.1 hP.1.2 0 4 rfl rfl (by unfold vp_in; decide) dL_law_397 ?_
    refine lv_iload hx hb dL_law_398 (lv_at hl 0 rfl) ?_
    refine lv_i2l (v := ((h_X7_carOf M (xs (k + 1)) (xs (k + 2))).1).toInt64) hx hb dL_law_400 rfl ?_
    refine W.lcmp hx hb dL_law_401 ?_
    refine lv_if_eq (tgt := 407) hx hb dL_law_402 (by decide) (fun c5 => ?_) (fun c5 => ?_)
    rotate_left
    · exact absurd (by rw [hop.2.2 c4]; exact lg_self _) c5
    refine lv_goto (tgt := 1806) hx hb dL_law_407 (by decide) ?_
    exact kk _ _ _ _ _ _ _ hop.2.1 hP hS (lv_sub hl [2, 3, 4, 5, 6] rfl) (by omega) (by omega)

set_option maxHeartbeats 4000000 in
set_option maxRecDepth 100000 in
theorem cs_at {l : Launch} {G : GG} {p : Program} {e : Env} {s : State} {m : MethodId} {below : List Frame} {meth : Method} {cd : Code} {sc L : Nat} {xs : Nat → Int32} (hC : LC l G p s m meth cd sc L xs) {P : Cx → Mo → Prop} (E : L27 P) {b k : Nat} {X : Cx} {f : Nat → Int64} {M : Mo} {H : Heap} {locs : List Loc} {cells slots : Nat} {ls : Array Slot} {Q : State → Prop} (hb0 : s.heap.size ≤ b) (hcs : cells ≤ 3000) (hss : slots ≤ 30000) (hk4 : k + 4 ≤ L) (hP : LX G b (X, f) M H) (hR : P X M) (hS : va_S (frm s.heap.size) s.heap H locs) (hl : lv_has ls 7 [(0, .ref sc), (1, .ref b), (2, .ref (b + 170)), (3, .ref (b + 178)), (4, .int (nI k))])
    (kk : ∀ (S1 : Wx) (M1 : Mo) (H1 : Heap) (locs1 : List Loc) (ls1 : Array Slot) (cells1 slots1 : Nat), P S1.1 M1 → LX G b S1 M1 H1 → va_S (frm s.heap.size) s.heap H1 locs1 → lv_has ls1 7 [(0, .ref sc), (1, .ref b), (2, .ref (b + 170)), (3, .ref (b + 178)), (4, .int (nI k))] → cells1 ≤ cells + 1 → slots1 ≤ slots + 6 → W p l e room_1 s m #[.ref sc] below meth cd H1 locs1 cells1 slots1 Q (F0 m 1806 ls1 [])) : W p l e room_1 s m #[.ref sc] below meth cd H locs cells slots Q (F0 m 410 ls []) := by
  obtain ⟨hx, hb, hr, hml, hown, hts, hX, hsc, hlocks, hO, hTh, hN, hAO, hst, hL⟩ := hC
  refine lv_aload_n hx hb dL_law_410 rfl (lv_at hl 1 rfl) ?_
  refine lv_aload_n hx hb dL_law_411 rfl (lv_at hl 0 rfl) ?_
  refine lv_iload hx hb dL_law_412 (lv_at hl 4 rfl) ?_
  refine lv_iconst (v := 1) hx hb dL_law_414 (by decide) ?_
  refine iadd_n (a := k) (b := 1) hx hb dL_law_415 ?_
  refine sld_n (j := k + 1) hx hb hX hsc hS (by omega) hL dL_law_416 ?_
  refine lv_aload_n hx hb dL_law_417 rfl (lv_at hl 3 rfl) ?_
  refine cl_mx (xSW (A := wfr b (b + 178)) (As := [.ref b, .int (xs (k + 1)), .ref (b + 178)]) (rest := []) ⟨hx, hb, hml, hown, hts⟩ (c_L_at l G b (b + 178) (X, f) (xs (k + 1)) hst (.inr (by omega))) (vx_cwSW 3 hts gL_law_L_at rfl rfl rfl (by decide +kernel) ⟨Nat.le_of_ble_eq_true rfl, Nat.le_of_ble_eq_true rfl⟩) hP.1 hO (fun U hU hW => (hTh.kept hW (by rw [hU]; exact hS.2.1)).sub (fun q hq => by rcases hq with hq | hq; exact Nat.le_trans hb0 hq.1; exact Nat.le_trans hb0 (by omega))) hN rfl hl.1 (Nat.le_of_ble_eq_true rfl) dL_law_418 ⟨by show cells + 0 + 1 ≤ 601024; omega, by show slots + 0 + 6 ≤ 7293034; omega⟩) (fun H1 L1 hP1 hz1 hk1 hL1 => ?_)
  have hS := S_app hS hz1 hk1 hL1 (fun q hq => by rcases hq with hq | hq; exact Nat.le_trans hb0 hq.1; exact Nat.le_trans hb0 (by omega))
  have hP := lx_w hP hP1 hk1
  refine lv_istore (lv' := [(5, .int ((wr "java/lang/IndexOutOfBoundsException" (h_X6_at X (xs (k + 1))) (X, f)).1)), (0, .ref sc), (1, .ref b), (2, .ref (b + 170)), (3, .ref (b + 178)), (4, .int (nI k))]) hx hb dL_law_421 hl (by decide) rfl (fun ls hl => ?_)
  refine lv_aload_n hx hb dL_law_423 rfl (lv_at hl 3 rfl) ?_
  refine lv_aload_n hx hb dL_law_424 rfl (lv_at hl 1 rfl) ?_
  refine lv_iload hx hb dL_law_425 (lv_at hl 5 rfl) ?_
  refine lv_iconst (v := 1) hx hb dL_law_427 (by decide) ?_
  refine iadd_n (a := k) (b := 1) hx hb dL_law_428 ?_
  refine sld_n (j := k + 1) hx hb hX hsc hS (by omega) hL dL_law_429 ?_
  refine cl_mi (rV (As := [.int (xs (k + 1))]) (rest := []) ⟨hx, hb, hml, hown, hts⟩ (c_X7_at l G (b + 170) M (xs (k + 1))) (cwV 1 hts gL_law_X7_at rfl rfl rfl (by decide +kernel) ⟨Nat.le_of_ble_eq_true rfl, Nat.le_of_ble_eq_true rfl⟩) (md_recv hO hP.2) hP.2 hO rfl hl.1 (Nat.le_of_ble_eq_true rfl) dL_law_430 ⟨by show cells + 1 + 0 ≤ 601024; omega, by show slots + 6 + 0 ≤ 7293034; omega⟩) hS (fun q hq => Nat.le_trans hb0 (Nat.le_trans (Nat.le_add_right _ _) hq.1)) (fun H2 locs2 hP2 hz2 hk2 hS => ?_)
  have hP := lx_m hP hP2 hk2
  have hop := E.o_at (f := f) (xs (k + 1)) hR
  refine lv_istore (lv' := [(6, .int ((h_X7_at M (xs (k + 1))).1)), (5, .int ((wr "java/lang/IndexOutOfBoundsException" (h_X6_at X (xs (k + 1))) (X, f)).1)), (0, .ref sc), (1, .ref b), (2, .ref (b + 170)), (3, .ref (b + 178)), (4, .int (nI k))]) hx hb dL_law_433 hl (by decide) rfl (fun ls hl => ?_)
  refine lv_aload_n hx hb dL_law_435 rfl (lv_at hl 4 rfl) ?_
  refine cl_pi (rV (As := []) (rest := []) ⟨hx, hb, hml, hown, hts⟩ (c_X7_thrown l G (b + 170) ((h_X7_at M (xs (k + 1))).2)) (cwV 0 hts gL_law_X7_thrown rfl rfl rfl (by decide +kernel) ⟨Nat.le_of_ble_eq_true rfl, Nat.le_of_ble_eq_true rfl⟩) (md_recv hO hP.2) hP.2 hO rfl hl.1 (Nat.le_of_ble_eq_true rfl) dL_law_436 ⟨by show cells + 1 + 0 ≤ 601024; omega, by show slots + 6 + 0 ≤ 7293034; omega⟩) ?_
  refine lv_iload hx hb dL_law_439 (lv_at hl 1 rfl) ?_
  refine lv_icmp_eq (tgt := 446) hx hb dL_law_441 (by decide) (fun c3 => ?_) (fun c3 => ?_)
  rotate_left
  · exact absurd hop.1 c3
  refine lv_iload hx hb dL_law_446 (lv_at hl 1 rfl) ?_
  refine lv_if_ne (tgt := 463) hx hb dL_law_448 (by decide) (fun c4 => ?_) (fun c4 => ?_)
  · refine lv_goto (tgt := 1806) hx hb dL_law_463 (by decide) ?_
    exact kk _ _ _ _ _ _ _ hop.2.1 hP hS (lv_sub hl [2, 3, 4, 5, 6] rfl) (by omega) (by omega)
  · refine lv_aload_n hx hb dL_law_451 rfl (lv_at hl 5 rfl) ?_
    refine lv_iconst (v := 0) hx hb dL_law_452 (by decide) ?_
    refine va_lald hx hb hO.1 hP.1.2 0 4 rfl rfl (by unfold vp_in; decide) dL_law_453 ?_
    refine lv_iload hx hb dL_law_454 (lv_at hl 0 rfl) ?_
    refine lv_i2l (v := ((h_X7_at M (xs (k + 1))).1).toInt64) hx hb dL_law_456 rfl ?_
    refine W.lcmp hx hb dL_law_457 ?_
    refine lv_if_eq (tgt := 463) hx hb dL_law_458 (by decide) (fun c5 => ?_) (fun c5 => ?_)
    rotate_left
    · exact absurd (by rw [hop.2.2 c4]; exact lg_self _) c5
    refine lv_goto (tgt := 1806) hx hb dL_law_463 (by decide) ?_
    exact kk _ _ _ _ _ _ _ hop.2.1 hP hS (lv_sub hl [2, 3, 4, 5, 6] rfl) (by omega) (by omega)

set_option maxHeartbeats 4000000 in
set_option maxRecDepth 100000 in
theorem cs_gap {l : Launch} {G : GG} {p : Program} {e : Env} {s : State} {m : MethodId} {below : List Frame} {meth : Method} {cd : Code} {sc L : Nat} {xs : Nat → Int32} (hC : LC l G p s m meth cd sc L xs) {P : Cx → Mo → Prop} (E : L27 P) {b k : Nat} {X : Cx} {f : Nat → Int64} {M : Mo} {H : Heap} {locs : List Loc} {cells slots : Nat} {ls : Array Slot} {Q : State → Prop} (hb0 : s.heap.size ≤ b) (hcs : cells ≤ 3000) (hss : slots ≤ 30000) (hk4 : k + 4 ≤ L) (hP : LX G b (X, f) M H) (hR : P X M) (hS : va_S (frm s.heap.size) s.heap H locs) (hl : lv_has ls 7 [(0, .ref sc), (1, .ref b), (2, .ref (b + 170)), (3, .ref (b + 178)), (4, .int (nI k))])
    (kk : ∀ (S1 : Wx) (M1 : Mo) (H1 : Heap) (locs1 : List Loc) (ls1 : Array Slot) (cells1 slots1 : Nat), P S1.1 M1 → LX G b S1 M1 H1 → va_S (frm s.heap.size) s.heap H1 locs1 → lv_has ls1 7 [(0, .ref sc), (1, .ref b), (2, .ref (b + 170)), (3, .ref (b + 178)), (4, .int (nI k))] → cells1 ≤ cells + 1 → slots1 ≤ slots + 6 → W p l e room_1 s m #[.ref sc] below meth cd H1 locs1 cells1 slots1 Q (F0 m 1806 ls1 [])) : W p l e room_1 s m #[.ref sc] below meth cd H locs cells slots Q (F0 m 466 ls []) := by
  obtain ⟨hx, hb, hr, hml, hown, hts, hX, hsc, hlocks, hO, hTh, hN, hAO, hst, hL⟩ := hC
  refine lv_aload_n hx hb dL_law_466 rfl (lv_at hl 1 rfl) ?_
  refine lv_aload_n hx hb dL_law_467 rfl (lv_at hl 0 rfl) ?_
  refine lv_iload hx hb dL_law_468 (lv_at hl 4 rfl) ?_
  refine lv_iconst (v := 1) hx hb dL_law_470 (by decide) ?_
  refine iadd_n (a := k) (b := 1) hx hb dL_law_471 ?_
  refine sld_n (j := k + 1) hx hb hX hsc hS (by omega) hL dL_law_472 ?_
  refine lv_aload_n hx hb dL_law_473 rfl (lv_at hl 0 rfl) ?_
  refine lv_iload hx hb dL_law_474 (lv_at hl 4 rfl) ?_
  refine lv_iconst (v := 2) hx hb dL_law_476 (by decide) ?_
  refine iadd_n (a := k) (b := 2) hx hb dL_law_477 ?_
  refine sld_n (j := k + 2) hx hb hX hsc hS (by omega) hL dL_law_478 ?_
  refine lv_aload_n hx hb dL_law_479 rfl (lv_at hl 3 rfl) ?_
  refine cl_mx (xSW (A := wfr b (b + 178)) (As := [.ref b, .int (xs (k + 1)), .int (xs (k + 2)), .ref (b + 178)]) (rest := []) ⟨hx, hb, hml, hown, hts⟩ (c_L_gap l G b (b + 178) (X, f) (xs (k + 1)) (xs (k + 2)) hst (.inr (by omega))) (vx_cwSW 4 hts gL_law_L_gap rfl rfl rfl (by decide +kernel) ⟨Nat.le_of_ble_eq_true rfl, Nat.le_of_ble_eq_true rfl⟩) hP.1 hO (fun U hU hW => (hTh.kept hW (by rw [hU]; exact hS.2.1)).sub (fun q hq => by rcases hq with hq | hq; exact Nat.le_trans hb0 hq.1; exact Nat.le_trans hb0 (by omega))) hN rfl hl.1 (Nat.le_of_ble_eq_true rfl) dL_law_480 ⟨by show cells + 0 + 1 ≤ 601024; omega, by show slots + 0 + 6 ≤ 7293034; omega⟩) (fun H1 L1 hP1 hz1 hk1 hL1 => ?_)
  have hS := S_app hS hz1 hk1 hL1 (fun q hq => by rcases hq with hq | hq; exact Nat.le_trans hb0 hq.1; exact Nat.le_trans hb0 (by omega))
  have hP := lx_w hP hP1 hk1
  refine lv_istore (lv' := [(5, .int ((wr "java/lang/IndexOutOfBoundsException" (h_X6_gap X (xs (k + 1)) (xs (k + 2))) (X, f)).1)), (0, .ref sc), (1, .ref b), (2, .ref (b + 170)), (3, .ref (b + 178)), (4, .int (nI k))]) hx hb dL_law_483 hl (by decide) rfl (fun ls hl => ?_)
  refine lv_aload_n hx hb dL_law_485 rfl (lv_at hl 3 rfl) ?_
  refine lv_aload_n hx hb dL_law_486 rfl (lv_at hl 1 rfl) ?_
  refine lv_iload hx hb dL_law_487 (lv_at hl 5 rfl) ?_
  refine lv_iconst (v := 1) hx hb dL_law_489 (by decide) ?_
  refine iadd_n (a := k) (b := 1) hx hb dL_law_490 ?_
  refine sld_n (j := k + 1) hx hb hX hsc hS (by omega) hL dL_law_491 ?_
  refine lv_aload_n hx hb dL_law_492 rfl (lv_at hl 1 rfl) ?_
  refine lv_iload hx hb dL_law_493 (lv_at hl 5 rfl) ?_
  refine lv_iconst (v := 2) hx hb dL_law_495 (by decide) ?_
  refine iadd_n (a := k) (b := 2) hx hb dL_law_496 ?_
  refine sld_n (j := k + 2) hx hb hX hsc hS (by omega) hL dL_law_497 ?_
  refine cl_mi (rV (As := [.int (xs (k + 1)), .int (xs (k + 2))]) (rest := []) ⟨hx, hb, hml, hown, hts⟩ (c_X7_gap l G (b + 170) M (xs (k + 1)) (xs (k + 2))) (cwV 2 hts gL_law_X7_gap rfl rfl rfl (by decide +kernel) ⟨Nat.le_of_ble_eq_true rfl, Nat.le_of_ble_eq_true rfl⟩) (md_recv hO hP.2) hP.2 hO rfl hl.1 (Nat.le_of_ble_eq_true rfl) dL_law_498 ⟨by show cells + 1 + 0 ≤ 601024; omega, by show slots + 6 + 0 ≤ 7293034; omega⟩) hS (fun q hq => Nat.le_trans hb0 (Nat.le_trans (Nat.le_add_right _ _) hq.1)) (fun H2 locs2 hP2 hz2 hk2 hS => ?_)
  have hP := lx_m hP hP2 hk2
  have hop := E.o_gap (f := f) (xs (k + 1)) (xs (k + 2)) hR
  refine lv_istore (lv' := [(6, .int ((h_X7_gap M (xs (k + 1)) (xs (k + 2))).1)), (5, .int ((wr "java/lang/IndexOutOfBoundsException" (h_X6_gap X (xs (k + 1)) (xs (k + 2))) (X, f)).1)), (0, .ref sc), (1, .ref b), (2, .ref (b + 170)), (3, .ref (b + 178)), (4, .int (nI k))]) hx hb dL_law_501 hl (by decide) rfl (fun ls hl => ?_)
  refine lv_aload_n hx hb dL_law_503 rfl (lv_at hl 4 rfl) ?_
  refine cl_pi (rV (As := []) (rest := []) ⟨hx, hb, hml, hown, hts⟩ (c_X7_thrown l G (b + 170) ((h_X7_gap M (xs (k + 1)) (xs (k + 2))).2)) (cwV 0 hts gL_law_X7_thrown rfl rfl rfl (by decide +kernel) ⟨Nat.le_of_ble_eq_true rfl, Nat.le_of_ble_eq_true rfl⟩) (md_recv hO hP.2) hP.2 hO rfl hl.1 (Nat.le_of_ble_eq_true rfl) dL_law_504 ⟨by show cells + 1 + 0 ≤ 601024; omega, by show slots + 6 + 0 ≤ 7293034; omega⟩) ?_
  refine lv_iload hx hb dL_law_507 (lv_at hl 1 rfl) ?_
  refine lv_icmp_eq (tgt := 514) hx hb dL_law_509 (by decide) (fun c3 => ?_) (fun c3 => ?_)
  rotate_left
  · exact absurd hop.1 c3
  refine lv_iload hx hb dL_law_514 (lv_at hl 1 rfl) ?_
  refine lv_if_ne (tgt := 531) hx hb dL_law_516 (by decide) (fun c4 => ?_) (fun c4 => ?_)
  · refine lv_goto (tgt := 1806) hx hb dL_law_531 (by decide) ?_
    exact kk _ _ _ _ _ _ _ hop.2.1 hP hS (lv_sub hl [2, 3, 4, 5, 6] rfl) (by omega) (by omega)
  · refine lv_aload_n hx hb dL_law_519 rfl (lv_at hl 5 rfl) ?_
    refine lv_iconst (v := 0) hx hb dL_law_520 (by decide) ?_
    refine va_lald hx hb hO.1 hP.1.2 0 4 rfl rfl (by unfold vp_in; decide) dL_law_521 ?_
    refine lv_iload hx hb dL_law_522 (lv_at hl 0 rfl) ?_
    refine lv_i2l (v := ((h_X7_gap M (xs (k + 1)) (xs (k + 2))).1).toInt64) hx hb dL_law_524 rfl ?_
    refine W.lcmp hx hb dL_law_525 ?_
    refine lv_if_eq (tgt := 531) hx hb dL_law_526 (by decide) (fun c5 => ?_) (fun c5 => ?_)
    rotate_left
    · exact absurd (by rw [hop.2.2 c4]; exact lg_self _) c5
    refine lv_goto (tgt := 1806) hx hb dL_law_531 (by decide) ?_
    exact kk _ _ _ _ _ _ _ hop.2.1 hP hS (lv_sub hl [2, 3, 4, 5, 6] rfl) (by omega) (by omega)

set_option maxHeartbeats 4000000 in
set_option maxRecDepth 100000 in
theorem cs_setting {l : Launch} {G : GG} {p : Program} {e : Env} {s : State} {m : MethodId} {below : List Frame} {meth : Method} {cd : Code} {sc L : Nat} {xs : Nat → Int32} (hC : LC l G p s m meth cd sc L xs) {P : Cx → Mo → Prop} (E : L27 P) {b k : Nat} {X : Cx} {f : Nat → Int64} {M : Mo} {H : Heap} {locs : List Loc} {cells slots : Nat} {ls : Array Slot} {Q : State → Prop} (hb0 : s.heap.size ≤ b) (hcs : cells ≤ 3000) (hss : slots ≤ 30000) (hk4 : k + 4 ≤ L) (hP : LX G b (X, f) M H) (hR : P X M) (hS : va_S (frm s.heap.size) s.heap H locs) (hl : lv_has ls 7 [(0, .ref sc), (1, .ref b), (2, .ref (b + 170)), (3, .ref (b + 178)), (4, .int (nI k))])
    (kk : ∀ (S1 : Wx) (M1 : Mo) (H1 : Heap) (locs1 : List Loc) (ls1 : Array Slot) (cells1 slots1 : Nat), P S1.1 M1 → LX G b S1 M1 H1 → va_S (frm s.heap.size) s.heap H1 locs1 → lv_has ls1 7 [(0, .ref sc), (1, .ref b), (2, .ref (b + 170)), (3, .ref (b + 178)), (4, .int (nI k))] → cells1 ≤ cells + 1 → slots1 ≤ slots + 6 → W p l e room_1 s m #[.ref sc] below meth cd H1 locs1 cells1 slots1 Q (F0 m 1806 ls1 [])) : W p l e room_1 s m #[.ref sc] below meth cd H locs cells slots Q (F0 m 534 ls []) := by
  obtain ⟨hx, hb, hr, hml, hown, hts, hX, hsc, hlocks, hO, hTh, hN, hAO, hst, hL⟩ := hC
  refine lv_aload_n hx hb dL_law_534 rfl (lv_at hl 1 rfl) ?_
  refine lv_aload_n hx hb dL_law_535 rfl (lv_at hl 0 rfl) ?_
  refine lv_iload hx hb dL_law_536 (lv_at hl 4 rfl) ?_
  refine lv_iconst (v := 1) hx hb dL_law_538 (by decide) ?_
  refine iadd_n (a := k) (b := 1) hx hb dL_law_539 ?_
  refine sld_n (j := k + 1) hx hb hX hsc hS (by omega) hL dL_law_540 ?_
  refine lv_aload_n hx hb dL_law_541 rfl (lv_at hl 3 rfl) ?_
  refine cl_mx (xSW (A := wfr b (b + 178)) (As := [.ref b, .int (xs (k + 1)), .ref (b + 178)]) (rest := []) ⟨hx, hb, hml, hown, hts⟩ (c_L_setting l G b (b + 178) (X, f) (xs (k + 1)) hst (.inr (by omega))) (vx_cwSW 3 hts gL_law_L_setting rfl rfl rfl (by decide +kernel) ⟨Nat.le_of_ble_eq_true rfl, Nat.le_of_ble_eq_true rfl⟩) hP.1 hO (fun U hU hW => (hTh.kept hW (by rw [hU]; exact hS.2.1)).sub (fun q hq => by rcases hq with hq | hq; exact Nat.le_trans hb0 hq.1; exact Nat.le_trans hb0 (by omega))) hN rfl hl.1 (Nat.le_of_ble_eq_true rfl) dL_law_542 ⟨by show cells + 0 + 1 ≤ 601024; omega, by show slots + 0 + 6 ≤ 7293034; omega⟩) (fun H1 L1 hP1 hz1 hk1 hL1 => ?_)
  have hS := S_app hS hz1 hk1 hL1 (fun q hq => by rcases hq with hq | hq; exact Nat.le_trans hb0 hq.1; exact Nat.le_trans hb0 (by omega))
  have hP := lx_w hP hP1 hk1
  refine lv_istore (lv' := [(5, .int ((wr "java/lang/IllegalArgumentException" (h_X6_setting X (xs (k + 1))) (X, f)).1)), (0, .ref sc), (1, .ref b), (2, .ref (b + 170)), (3, .ref (b + 178)), (4, .int (nI k))]) hx hb dL_law_545 hl (by decide) rfl (fun ls hl => ?_)
  refine lv_aload_n hx hb dL_law_547 rfl (lv_at hl 3 rfl) ?_
  refine lv_aload_n hx hb dL_law_548 rfl (lv_at hl 1 rfl) ?_
  refine lv_iload hx hb dL_law_549 (lv_at hl 5 rfl) ?_
  refine lv_iconst (v := 1) hx hb dL_law_551 (by decide) ?_
  refine iadd_n (a := k) (b := 1) hx hb dL_law_552 ?_
  refine sld_n (j := k + 1) hx hb hX hsc hS (by omega) hL dL_law_553 ?_
  refine cl_mi (rV (As := [.int (xs (k + 1))]) (rest := []) ⟨hx, hb, hml, hown, hts⟩ (c_X7_setting l G (b + 170) M (xs (k + 1))) (cwV 1 hts gL_law_X7_setting rfl rfl rfl (by decide +kernel) ⟨Nat.le_of_ble_eq_true rfl, Nat.le_of_ble_eq_true rfl⟩) (md_recv hO hP.2) hP.2 hO rfl hl.1 (Nat.le_of_ble_eq_true rfl) dL_law_554 ⟨by show cells + 1 + 0 ≤ 601024; omega, by show slots + 6 + 0 ≤ 7293034; omega⟩) hS (fun q hq => Nat.le_trans hb0 (Nat.le_trans (Nat.le_add_right _ _) hq.1)) (fun H2 locs2 hP2 hz2 hk2 hS => ?_)
  have hP := lx_m hP hP2 hk2
  have hop := E.o_setting (f := f) (xs (k + 1)) hR
  refine lv_istore (lv' := [(6, .int ((h_X7_setting M (xs (k + 1))).1)), (5, .int ((wr "java/lang/IllegalArgumentException" (h_X6_setting X (xs (k + 1))) (X, f)).1)), (0, .ref sc), (1, .ref b), (2, .ref (b + 170)), (3, .ref (b + 178)), (4, .int (nI k))]) hx hb dL_law_557 hl (by decide) rfl (fun ls hl => ?_)
  refine lv_aload_n hx hb dL_law_559 rfl (lv_at hl 4 rfl) ?_
  refine cl_pi (rV (As := []) (rest := []) ⟨hx, hb, hml, hown, hts⟩ (c_X7_thrown l G (b + 170) ((h_X7_setting M (xs (k + 1))).2)) (cwV 0 hts gL_law_X7_thrown rfl rfl rfl (by decide +kernel) ⟨Nat.le_of_ble_eq_true rfl, Nat.le_of_ble_eq_true rfl⟩) (md_recv hO hP.2) hP.2 hO rfl hl.1 (Nat.le_of_ble_eq_true rfl) dL_law_560 ⟨by show cells + 1 + 0 ≤ 601024; omega, by show slots + 6 + 0 ≤ 7293034; omega⟩) ?_
  refine lv_iload hx hb dL_law_563 (lv_at hl 1 rfl) ?_
  refine lv_icmp_eq (tgt := 570) hx hb dL_law_565 (by decide) (fun c3 => ?_) (fun c3 => ?_)
  rotate_left
  · exact absurd hop.1 c3
  refine lv_iload hx hb dL_law_570 (lv_at hl 1 rfl) ?_
  refine lv_if_ne (tgt := 587) hx hb dL_law_572 (by decide) (fun c4 => ?_) (fun c4 => ?_)
  · refine lv_goto (tgt := 1806) hx hb dL_law_587 (by decide) ?_
    exact kk _ _ _ _ _ _ _ hop.2.1 hP hS (lv_sub hl [2, 3, 4, 5, 6] rfl) (by omega) (by omega)
  · refine lv_aload_n hx hb dL_law_575 rfl (lv_at hl 5 rfl) ?_
    refine lv_iconst (v := 0) hx hb dL_law_576 (by decide) ?_
    refine va_lald hx hb hO.1 hP.1.2 0 4 rfl rfl (by unfold vp_in; decide) dL_law_577 ?_
    refine lv_iload hx hb dL_law_578 (lv_at hl 0 rfl) ?_
    refine lv_i2l (v := ((h_X7_setting M (xs (k + 1))).1).toInt64) hx hb dL_law_580 rfl ?_
    refine W.lcmp hx hb dL_law_581 ?_
    refine lv_if_eq (tgt := 587) hx hb dL_law_582 (by decide) (fun c5 => ?_) (fun c5 => ?_)
    rotate_left
    · exact absurd (by rw [hop.2.2 c4]; exact lg_self _) c5
    refine lv_goto (tgt := 1806) hx hb dL_law_587 (by decide) ?_
    exact kk _ _ _ _ _ _ _ hop.2.1 hP hS (lv_sub hl [2, 3, 4, 5, 6] rfl) (by omega) (by omega)

set_option maxHeartbeats 4000000 in
set_option maxRecDepth 100000 in
theorem cs_hydrant {l : Launch} {G : GG} {p : Program} {e : Env} {s : State} {m : MethodId} {below : List Frame} {meth : Method} {cd : Code} {sc L : Nat} {xs : Nat → Int32} (hC : LC l G p s m meth cd sc L xs) {P : Cx → Mo → Prop} (E : L27 P) {b k : Nat} {X : Cx} {f : Nat → Int64} {M : Mo} {H : Heap} {locs : List Loc} {cells slots : Nat} {ls : Array Slot} {Q : State → Prop} (hb0 : s.heap.size ≤ b) (hcs : cells ≤ 3000) (hss : slots ≤ 30000) (hk4 : k + 4 ≤ L) (hP : LX G b (X, f) M H) (hR : P X M) (hS : va_S (frm s.heap.size) s.heap H locs) (hl : lv_has ls 7 [(0, .ref sc), (1, .ref b), (2, .ref (b + 170)), (3, .ref (b + 178)), (4, .int (nI k))])
    (kk : ∀ (S1 : Wx) (M1 : Mo) (H1 : Heap) (locs1 : List Loc) (ls1 : Array Slot) (cells1 slots1 : Nat), P S1.1 M1 → LX G b S1 M1 H1 → va_S (frm s.heap.size) s.heap H1 locs1 → lv_has ls1 7 [(0, .ref sc), (1, .ref b), (2, .ref (b + 170)), (3, .ref (b + 178)), (4, .int (nI k))] → cells1 ≤ cells + 1 → slots1 ≤ slots + 6 → W p l e room_1 s m #[.ref sc] below meth cd H1 locs1 cells1 slots1 Q (F0 m 1806 ls1 [])) : W p l e room_1 s m #[.ref sc] below meth cd H locs cells slots Q (F0 m 590 ls []) := by
  obtain ⟨hx, hb, hr, hml, hown, hts, hX, hsc, hlocks, hO, hTh, hN, hAO, hst, hL⟩ := hC
  refine lv_aload_n hx hb dL_law_590 rfl (lv_at hl 1 rfl) ?_
  refine lv_aload_n hx hb dL_law_591 rfl (lv_at hl 0 rfl) ?_
  refine lv_iload hx hb dL_law_592 (lv_at hl 4 rfl) ?_
  refine lv_iconst (v := 1) hx hb dL_law_594 (by decide) ?_
  refine iadd_n (a := k) (b := 1) hx hb dL_law_595 ?_
  refine sld_n (j := k + 1) hx hb hX hsc hS (by omega) hL dL_law_596 ?_
  refine lv_aload_n hx hb dL_law_597 rfl (lv_at hl 0 rfl) ?_
  refine lv_iload hx hb dL_law_598 (lv_at hl 4 rfl) ?_
  refine lv_iconst (v := 2) hx hb dL_law_600 (by decide) ?_
  refine iadd_n (a := k) (b := 2) hx hb dL_law_601 ?_
  refine sld_n (j := k + 2) hx hb hX hsc hS (by omega) hL dL_law_602 ?_
  refine lv_if_eq (tgt := 610) hx hb dL_law_603 (by decide) (fun c1 => ?_) (fun c1 => ?_)
  · refine lv_iconst (v := 0) hx hb dL_law_610 (by decide) ?_
    refine lv_aload_n hx hb dL_law_611 rfl (lv_at hl 3 rfl) ?_
    refine cl_mx (xSW (A := wfr b (b + 178)) (As := [.ref b, .int (xs (k + 1)), .int 0, .ref (b + 178)]) (rest := []) ⟨hx, hb, hml, hown, hts⟩ (c_L_hydrant l G b (b + 178) (X, f) (xs (k + 1)) (0) hst (.inr (by omega)) (E.o14 hR) (E.k14 hR)) (vx_cwSW 4 hts gL_law_L_hydrant rfl rfl rfl (by decide +kernel) ⟨Nat.le_of_ble_eq_true rfl, Nat.le_of_ble_eq_true rfl⟩) hP.1 hO (fun U hU hW => (hTh.kept hW (by rw [hU]; exact hS.2.1)).sub (fun q hq => by rcases hq with hq | hq; exact Nat.le_trans hb0 hq.1; exact Nat.le_trans hb0 (by omega))) hN rfl hl.1 (Nat.le_of_ble_eq_true rfl) dL_law_612 ⟨by show cells + 0 + 1 ≤ 601024; omega, by show slots + 0 + 6 ≤ 7293034; omega⟩) (fun H1 L1 hP1 hz1 hk1 hL1 => ?_)
    have hS := S_app hS hz1 hk1 hL1 (fun q hq => by rcases hq with hq | hq; exact Nat.le_trans hb0 hq.1; exact Nat.le_trans hb0 (by omega))
    have hP := lx_w hP hP1 hk1
    refine lv_istore (lv' := [(5, .int ((wr "java/lang/IndexOutOfBoundsException" (h_X6_hydrant X (xs (k + 1)) (0)) (X, f)).1)), (0, .ref sc), (1, .ref b), (2, .ref (b + 170)), (3, .ref (b + 178)), (4, .int (nI k))]) hx hb dL_law_615 hl (by decide) rfl (fun ls hl => ?_)
    refine lv_aload_n hx hb dL_law_617 rfl (lv_at hl 3 rfl) ?_
    refine lv_aload_n hx hb dL_law_618 rfl (lv_at hl 1 rfl) ?_
    refine lv_iload hx hb dL_law_619 (lv_at hl 5 rfl) ?_
    refine lv_iconst (v := 1) hx hb dL_law_621 (by decide) ?_
    refine iadd_n (a := k) (b := 1) hx hb dL_law_622 ?_
    refine sld_n (j := k + 1) hx hb hX hsc hS (by omega) hL dL_law_623 ?_
    refine lv_aload_n hx hb dL_law_624 rfl (lv_at hl 1 rfl) ?_
    refine lv_iload hx hb dL_law_625 (lv_at hl 5 rfl) ?_
    refine lv_iconst (v := 2) hx hb dL_law_627 (by decide) ?_
    refine iadd_n (a := k) (b := 2) hx hb dL_law_628 ?_
    refine sld_n (j := k + 2) hx hb hX hsc hS (by omega) hL dL_law_629 ?_
    refine lv_if_eq (tgt := 637) hx hb dL_law_630 (by decide) (fun c2 => ?_) (fun c2 => ?_)
    rotate_left
    · exact absurd c1 c2
    refine lv_iconst (v := 0) hx hb dL_law_637 (by decide) ?_
    refine cl_mi (rV (As := [.int (xs (k + 1)), .int 0]) (rest := []) ⟨hx, hb, hml, hown, hts⟩ (c_X7_hydrant l G (b + 170) M (xs (k + 1)) (0) (E.ri hR) (E.mc hR) (E.mc14 hR)) (cwV 2 hts gL_law_X7_hydrant rfl rfl rfl (by decide +kernel) ⟨Nat.le_of_ble_eq_true rfl, Nat.le_of_ble_eq_true rfl⟩) (md_recv hO hP.2) hP.2 hO rfl hl.1 (Nat.le_of_ble_eq_true rfl) dL_law_638 ⟨by show cells + 1 + 0 ≤ 601024; omega, by show slots + 6 + 0 ≤ 7293034; omega⟩) hS (fun q hq => Nat.le_trans hb0 (Nat.le_trans (Nat.le_add_right _ _) hq.1)) (fun H2 locs2 hP2 hz2 hk2 hS => ?_)
    have hP := lx_m hP hP2 hk2
    have hop := E.o_hydrant (f := f) (xs (k + 1)) (0) hR (by decide)
    refine lv_istore (lv' := [(6, .int ((h_X7_hydrant M (xs (k + 1)) (0)).1)), (5, .int ((wr "java/lang/IndexOutOfBoundsException" (h_X6_hydrant X (xs (k + 1)) (0)) (X, f)).1)), (0, .ref sc), (1, .ref b), (2, .ref (b + 170)), (3, .ref (b + 178)), (4, .int (nI k))]) hx hb dL_law_641 hl (by decide) rfl (fun ls hl => ?_)
    refine lv_aload_n hx hb dL_law_643 rfl (lv_at hl 4 rfl) ?_
    refine cl_pi (rV (As := []) (rest := []) ⟨hx, hb, hml, hown, hts⟩ (c_X7_thrown l G (b + 170) ((h_X7_hydrant M (xs (k + 1)) (0)).2)) (cwV 0 hts gL_law_X7_thrown rfl rfl rfl (by decide +kernel) ⟨Nat.le_of_ble_eq_true rfl, Nat.le_of_ble_eq_true rfl⟩) (md_recv hO hP.2) hP.2 hO rfl hl.1 (Nat.le_of_ble_eq_true rfl) dL_law_644 ⟨by show cells + 1 + 0 ≤ 601024; omega, by show slots + 6 + 0 ≤ 7293034; omega⟩) ?_
    refine lv_iload hx hb dL_law_647 (lv_at hl 1 rfl) ?_
    refine lv_icmp_eq (tgt := 654) hx hb dL_law_649 (by decide) (fun c3 => ?_) (fun c3 => ?_)
    rotate_left
    · exact absurd hop.1 c3
    refine lv_iload hx hb dL_law_654 (lv_at hl 1 rfl) ?_
    refine lv_if_ne (tgt := 671) hx hb dL_law_656 (by decide) (fun c4 => ?_) (fun c4 => ?_)
    · refine lv_goto (tgt := 1806) hx hb dL_law_671 (by decide) ?_
      exact kk _ _ _ _ _ _ _ hop.2.1 hP hS (lv_sub hl [2, 3, 4, 5, 6] rfl) (by omega) (by omega)
    · refine lv_aload_n hx hb dL_law_659 rfl (lv_at hl 5 rfl) ?_
      refine lv_iconst (v := 0) hx hb dL_law_660 (by decide) ?_
      refine va_lald hx hb hO.1 hP.1.2 0 4 rfl rfl (by unfold vp_in; decide) dL_law_661 ?_
      refine lv_iload hx hb dL_law_662 (lv_at hl 0 rfl) ?_
      refine lv_i2l (v := ((h_X7_hydrant M (xs (k + 1)) (0)).1).toInt64) hx hb dL_law_664 rfl ?_
      refine W.lcmp hx hb dL_law_665 ?_
      refine lv_if_eq (tgt := 671) hx hb dL_law_666 (by decide) (fun c5 => ?_) (fun c5 => ?_)
      rotate_left
      · exact absurd (by rw [hop.2.2 c4]; exact lg_self _) c5
      refine lv_goto (tgt := 1806) hx hb dL_law_671 (by decide) ?_
      exact kk _ _ _ _ _ _ _ hop.2.1 hP hS (lv_sub hl [2, 3, 4, 5, 6] rfl) (by omega) (by omega)
  · refine lv_iconst (v := 1) hx hb dL_law_606 (by decide) ?_
    refine lv_goto (tgt := 611) hx hb dL_law_607 (by decide) ?_
    refine lv_aload_n hx hb dL_law_611 rfl (lv_at hl 3 rfl) ?_
    refine cl_mx (xSW (A := wfr b (b + 178)) (As := [.ref b, .int (xs (k + 1)), .int 1, .ref (b + 178)]) (rest := []) ⟨hx, hb, hml, hown, hts⟩ (c_L_hydrant l G b (b + 178) (X, f) (xs (k + 1)) (1) hst (.inr (by omega)) (E.o14 hR) (E.k14 hR)) (vx_cwSW 4 hts gL_law_L_hydrant rfl rfl rfl (by decide +kernel) ⟨Nat.le_of_ble_eq_true rfl, Nat.le_of_ble_eq_true rfl⟩) hP.1 hO (fun U hU hW => (hTh.kept hW (by rw [hU]; exact hS.2.1)).sub (fun q hq => by rcases hq with hq | hq; exact Nat.le_trans hb0 hq.1; exact Nat.le_trans hb0 (by omega))) hN rfl hl.1 (Nat.le_of_ble_eq_true rfl) dL_law_612 ⟨by show cells + 0 + 1 ≤ 601024; omega, by show slots + 0 + 6 ≤ 7293034; omega⟩) (fun H1 L1 hP1 hz1 hk1 hL1 => ?_)
    have hS := S_app hS hz1 hk1 hL1 (fun q hq => by rcases hq with hq | hq; exact Nat.le_trans hb0 hq.1; exact Nat.le_trans hb0 (by omega))
    have hP := lx_w hP hP1 hk1
    refine lv_istore (lv' := [(5, .int ((wr "java/lang/IndexOutOfBoundsException" (h_X6_hydrant X (xs (k + 1)) (1)) (X, f)).1)), (0, .ref sc), (1, .ref b), (2, .ref (b + 170)), (3, .ref (b + 178)), (4, .int (nI k))]) hx hb dL_law_615 hl (by decide) rfl (fun ls hl => ?_)
    refine lv_aload_n hx hb dL_law_617 rfl (lv_at hl 3 rfl) ?_
    refine lv_aload_n hx hb dL_law_618 rfl (lv_at hl 1 rfl) ?_
    refine lv_iload hx hb dL_law_619 (lv_at hl 5 rfl) ?_
    refine lv_iconst (v := 1) hx hb dL_law_621 (by decide) ?_
    refine iadd_n (a := k) (b := 1) hx hb dL_law_622 ?_
    refine sld_n (j := k + 1) hx hb hX hsc hS (by omega) hL dL_law_623 ?_
    refine lv_aload_n hx hb dL_law_624 rfl (lv_at hl 1 rfl) ?_
    refine lv_iload hx hb dL_law_625 (lv_at hl 5 rfl) ?_
    refine lv_iconst (v := 2) hx hb dL_law_627 (by decide) ?_
    refine iadd_n (a := k) (b := 2) hx hb dL_law_628 ?_
    refine sld_n (j := k + 2) hx hb hX hsc hS (by omega) hL dL_law_629 ?_
    refine lv_if_eq (tgt := 637) hx hb dL_law_630 (by decide) (fun c2 => ?_) (fun c2 => ?_)
    · exact absurd c2 c1
    refine lv_iconst (v := 1) hx hb dL_law_633 (by decide) ?_
    refine lv_goto (tgt := 638) hx hb dL_law_634 (by decide) ?_
    refine cl_mi (rV (As := [.int (xs (k + 1)), .int 1]) (rest := []) ⟨hx, hb, hml, hown, hts⟩ (c_X7_hydrant l G (b + 170) M (xs (k + 1)) (1) (E.ri hR) (E.mc hR) (E.mc14 hR)) (cwV 2 hts gL_law_X7_hydrant rfl rfl rfl (by decide +kernel) ⟨Nat.le_of_ble_eq_true rfl, Nat.le_of_ble_eq_true rfl⟩) (md_recv hO hP.2) hP.2 hO rfl hl.1 (Nat.le_of_ble_eq_true rfl) dL_law_638 ⟨by show cells + 1 + 0 ≤ 601024; omega, by show slots + 6 + 0 ≤ 7293034; omega⟩) hS (fun q hq => Nat.le_trans hb0 (Nat.le_trans (Nat.le_add_right _ _) hq.1)) (fun H2 locs2 hP2 hz2 hk2 hS => ?_)
    have hP := lx_m hP hP2 hk2
    have hop := E.o_hydrant (f := f) (xs (k + 1)) (1) hR (by decide)
    refine lv_istore (lv' := [(6, .int ((h_X7_hydrant M (xs (k + 1)) (1)).1)), (5, .int ((wr "java/lang/IndexOutOfBoundsException" (h_X6_hydrant X (xs (k + 1)) (1)) (X, f)).1)), (0, .ref sc), (1, .ref b), (2, .ref (b + 170)), (3, .ref (b + 178)), (4, .int (nI k))]) hx hb dL_law_641 hl (by decide) rfl (fun ls hl => ?_)
    refine lv_aload_n hx hb dL_law_643 rfl (lv_at hl 4 rfl) ?_
    refine cl_pi (rV (As := []) (rest := []) ⟨hx, hb, hml, hown, hts⟩ (c_X7_thrown l G (b + 170) ((h_X7_hydrant M (xs (k + 1)) (1)).2)) (cwV 0 hts gL_law_X7_thrown rfl rfl rfl (by decide +kernel) ⟨Nat.le_of_ble_eq_true rfl, Nat.le_of_ble_eq_true rfl⟩) (md_recv hO hP.2) hP.2 hO rfl hl.1 (Nat.le_of_ble_eq_true rfl) dL_law_644 ⟨by show cells + 1 + 0 ≤ 601024; omega, by show slots + 6 + 0 ≤ 7293034; omega⟩) ?_
    refine lv_iload hx hb dL_law_647 (lv_at hl 1 rfl) ?_
    refine lv_icmp_eq (tgt := 654) hx hb dL_law_649 (by decide) (fun c3 => ?_) (fun c3 => ?_)
    rotate_left
    · exact absurd hop.1 c3
    refine lv_iload hx hb dL_law_654 (lv_at hl 1 rfl) ?_
    refine lv_if_ne (tgt := 671) hx hb dL_law_656 (by decide) (fun c4 => ?_) (fun c4 => ?_)
    · refine lv_goto (tgt := 1806) hx hb dL_law_671 (by decide) ?_
      exact kk _ _ _ _ _ _ _ hop.2.1 hP hS (lv_sub hl [2, 3, 4, 5, 6] rfl) (by omega) (by omega)
    · refine lv_aload_n hx hb dL_law_659 rfl (lv_at hl 5 rfl) ?_
      refine lv_iconst (v := 0) hx hb dL_law_660 (by decide) ?_
      refine va_lald hx hb hO.1 hP.1.2 0 4 rfl rfl (by unfold vp_in; decide) dL_law_661 ?_
      refine lv_iload hx hb dL_law_662 (lv_at hl 0 rfl) ?_
      refine lv_i2l (v := ((h_X7_hydrant M (xs (k + 1)) (1)).1).toInt64) hx hb dL_law_664 rfl ?_
      refine W.lcmp hx hb dL_law_665 ?_
      refine lv_if_eq (tgt := 671) hx hb dL_law_666 (by decide) (fun c5 => ?_) (fun c5 => ?_)
      rotate_left
      · exact absurd (by rw [hop.2.2 c4]; exact lg_self _) c5
      refine lv_goto (tgt := 1806) hx hb dL_law_671 (by decide) ?_
      exact kk _ _ _ _ _ _ _ hop.2.1 hP hS (lv_sub hl [2, 3, 4, 5, 6] rfl) (by omega) (by omega)

set_option maxHeartbeats 4000000 in
set_option maxRecDepth 100000 in
theorem cs_come {l : Launch} {G : GG} {p : Program} {e : Env} {s : State} {m : MethodId} {below : List Frame} {meth : Method} {cd : Code} {sc L : Nat} {xs : Nat → Int32} (hC : LC l G p s m meth cd sc L xs) {P : Cx → Mo → Prop} (E : L27 P) {b k : Nat} {X : Cx} {f : Nat → Int64} {M : Mo} {H : Heap} {locs : List Loc} {cells slots : Nat} {ls : Array Slot} {Q : State → Prop} (hb0 : s.heap.size ≤ b) (hcs : cells ≤ 3000) (hss : slots ≤ 30000) (hk4 : k + 4 ≤ L) (hP : LX G b (X, f) M H) (hR : P X M) (hS : va_S (frm s.heap.size) s.heap H locs) (hl : lv_has ls 7 [(0, .ref sc), (1, .ref b), (2, .ref (b + 170)), (3, .ref (b + 178)), (4, .int (nI k))])
    (kk : ∀ (S1 : Wx) (M1 : Mo) (H1 : Heap) (locs1 : List Loc) (ls1 : Array Slot) (cells1 slots1 : Nat), P S1.1 M1 → LX G b S1 M1 H1 → va_S (frm s.heap.size) s.heap H1 locs1 → lv_has ls1 7 [(0, .ref sc), (1, .ref b), (2, .ref (b + 170)), (3, .ref (b + 178)), (4, .int (nI k))] → cells1 ≤ cells + 1 → slots1 ≤ slots + 6 → W p l e room_1 s m #[.ref sc] below meth cd H1 locs1 cells1 slots1 Q (F0 m 1806 ls1 [])) : W p l e room_1 s m #[.ref sc] below meth cd H locs cells slots Q (F0 m 674 ls []) := by
  obtain ⟨hx, hb, hr, hml, hown, hts, hX, hsc, hlocks, hO, hTh, hN, hAO, hst, hL⟩ := hC
  refine lv_aload_n hx hb dL_law_674 rfl (lv_at hl 1 rfl) ?_
  refine lv_aload_n hx hb dL_law_675 rfl (lv_at hl 0 rfl) ?_
  refine lv_iload hx hb dL_law_676 (lv_at hl 4 rfl) ?_
  refine lv_iconst (v := 1) hx hb dL_law_678 (by decide) ?_
  refine iadd_n (a := k) (b := 1) hx hb dL_law_679 ?_
  refine sld_n (j := k + 1) hx hb hX hsc hS (by omega) hL dL_law_680 ?_
  refine lv_aload_n hx hb dL_law_681 rfl (lv_at hl 0 rfl) ?_
  refine lv_iload hx hb dL_law_682 (lv_at hl 4 rfl) ?_
  refine lv_iconst (v := 2) hx hb dL_law_684 (by decide) ?_
  refine iadd_n (a := k) (b := 2) hx hb dL_law_685 ?_
  refine sld_n (j := k + 2) hx hb hX hsc hS (by omega) hL dL_law_686 ?_
  refine lv_aload_n hx hb dL_law_687 rfl (lv_at hl 3 rfl) ?_
  refine cl_mx (xSW (A := wfr b (b + 178)) (As := [.ref b, .int (xs (k + 1)), .int (xs (k + 2)), .ref (b + 178)]) (rest := []) ⟨hx, hb, hml, hown, hts⟩ (c_L_come l G b (b + 178) (X, f) (xs (k + 1)) (xs (k + 2)) hst (.inr (by omega)) (E.o14 hR) (E.k14 hR)) (vx_cwSW 4 hts gL_law_L_come rfl rfl rfl (by decide +kernel) ⟨Nat.le_of_ble_eq_true rfl, Nat.le_of_ble_eq_true rfl⟩) hP.1 hO (fun U hU hW => (hTh.kept hW (by rw [hU]; exact hS.2.1)).sub (fun q hq => by rcases hq with hq | hq; exact Nat.le_trans hb0 hq.1; exact Nat.le_trans hb0 (by omega))) hN rfl hl.1 (Nat.le_of_ble_eq_true rfl) dL_law_688 ⟨by show cells + 0 + 1 ≤ 601024; omega, by show slots + 0 + 6 ≤ 7293034; omega⟩) (fun H1 L1 hP1 hz1 hk1 hL1 => ?_)
  have hS := S_app hS hz1 hk1 hL1 (fun q hq => by rcases hq with hq | hq; exact Nat.le_trans hb0 hq.1; exact Nat.le_trans hb0 (by omega))
  have hP := lx_w hP hP1 hk1
  refine lv_istore (lv' := [(5, .int ((wr "java/lang/IllegalArgumentException" (h_X6_come X (xs (k + 1)) (xs (k + 2))) (X, f)).1)), (0, .ref sc), (1, .ref b), (2, .ref (b + 170)), (3, .ref (b + 178)), (4, .int (nI k))]) hx hb dL_law_691 hl (by decide) rfl (fun ls hl => ?_)
  refine lv_aload_n hx hb dL_law_693 rfl (lv_at hl 3 rfl) ?_
  refine lv_aload_n hx hb dL_law_694 rfl (lv_at hl 1 rfl) ?_
  refine lv_iload hx hb dL_law_695 (lv_at hl 5 rfl) ?_
  refine lv_iconst (v := 1) hx hb dL_law_697 (by decide) ?_
  refine iadd_n (a := k) (b := 1) hx hb dL_law_698 ?_
  refine sld_n (j := k + 1) hx hb hX hsc hS (by omega) hL dL_law_699 ?_
  refine lv_aload_n hx hb dL_law_700 rfl (lv_at hl 1 rfl) ?_
  refine lv_iload hx hb dL_law_701 (lv_at hl 5 rfl) ?_
  refine lv_iconst (v := 2) hx hb dL_law_703 (by decide) ?_
  refine iadd_n (a := k) (b := 2) hx hb dL_law_704 ?_
  refine sld_n (j := k + 2) hx hb hX hsc hS (by omega) hL dL_law_705 ?_
  refine cl_mi (rV (As := [.int (xs (k + 1)), .int (xs (k + 2))]) (rest := []) ⟨hx, hb, hml, hown, hts⟩ (c_X7_come l G (b + 170) M (xs (k + 1)) (xs (k + 2)) (E.ri hR) (E.mc hR) (E.mc14 hR)) (cwV 2 hts gL_law_X7_come rfl rfl rfl (by decide +kernel) ⟨Nat.le_of_ble_eq_true rfl, Nat.le_of_ble_eq_true rfl⟩) (md_recv hO hP.2) hP.2 hO rfl hl.1 (Nat.le_of_ble_eq_true rfl) dL_law_706 ⟨by show cells + 1 + 0 ≤ 601024; omega, by show slots + 6 + 0 ≤ 7293034; omega⟩) hS (fun q hq => Nat.le_trans hb0 (Nat.le_trans (Nat.le_add_right _ _) hq.1)) (fun H2 locs2 hP2 hz2 hk2 hS => ?_)
  have hP := lx_m hP hP2 hk2
  have hop := E.o_come (f := f) (xs (k + 1)) (xs (k + 2)) hR
  refine lv_istore (lv' := [(6, .int ((h_X7_come M (xs (k + 1)) (xs (k + 2))).1)), (5, .int ((wr "java/lang/IllegalArgumentException" (h_X6_come X (xs (k + 1)) (xs (k + 2))) (X, f)).1)), (0, .ref sc), (1, .ref b), (2, .ref (b + 170)), (3, .ref (b + 178)), (4, .int (nI k))]) hx hb dL_law_709 hl (by decide) rfl (fun ls hl => ?_)
  refine lv_aload_n hx hb dL_law_711 rfl (lv_at hl 4 rfl) ?_
  refine cl_pi (rV (As := []) (rest := []) ⟨hx, hb, hml, hown, hts⟩ (c_X7_thrown l G (b + 170) ((h_X7_come M (xs (k + 1)) (xs (k + 2))).2)) (cwV 0 hts gL_law_X7_thrown rfl rfl rfl (by decide +kernel) ⟨Nat.le_of_ble_eq_true rfl, Nat.le_of_ble_eq_true rfl⟩) (md_recv hO hP.2) hP.2 hO rfl hl.1 (Nat.le_of_ble_eq_true rfl) dL_law_712 ⟨by show cells + 1 + 0 ≤ 601024; omega, by show slots + 6 + 0 ≤ 7293034; omega⟩) ?_
  refine lv_iload hx hb dL_law_715 (lv_at hl 1 rfl) ?_
  refine lv_icmp_eq (tgt := 722) hx hb dL_law_717 (by decide) (fun c3 => ?_) (fun c3 => ?_)
  rotate_left
  · exact absurd hop.1 c3
  refine lv_iload hx hb dL_law_722 (lv_at hl 1 rfl) ?_
  refine lv_if_ne (tgt := 739) hx hb dL_law_724 (by decide) (fun c4 => ?_) (fun c4 => ?_)
  · refine lv_goto (tgt := 1806) hx hb dL_law_739 (by decide) ?_
    exact kk _ _ _ _ _ _ _ hop.2.1 hP hS (lv_sub hl [2, 3, 4, 5, 6] rfl) (by omega) (by omega)
  · refine lv_aload_n hx hb dL_law_727 rfl (lv_at hl 5 rfl) ?_
    refine lv_iconst (v := 0) hx hb dL_law_728 (by decide) ?_
    refine va_lald hx hb hO.1 hP.1.2 0 4 rfl rfl (by unfold vp_in; decide) dL_law_729 ?_
    refine lv_iload hx hb dL_law_730 (lv_at hl 0 rfl) ?_
    refine lv_i2l (v := ((h_X7_come M (xs (k + 1)) (xs (k + 2))).1).toInt64) hx hb dL_law_732 rfl ?_
    refine W.lcmp hx hb dL_law_733 ?_
    refine lv_if_eq (tgt := 739) hx hb dL_law_734 (by decide) (fun c5 => ?_) (fun c5 => ?_)
    rotate_left
    · exact absurd (by rw [hop.2.2 c4]; exact lg_self _) c5
    refine lv_goto (tgt := 1806) hx hb dL_law_739 (by decide) ?_
    exact kk _ _ _ _ _ _ _ hop.2.1 hP hS (lv_sub hl [2, 3, 4, 5, 6] rfl) (by omega) (by omega)

set_option maxHeartbeats 4000000 in
set_option maxRecDepth 100000 in
theorem cs_leave {l : Launch} {G : GG} {p : Program} {e : Env} {s : State} {m : MethodId} {below : List Frame} {meth : Method} {cd : Code} {sc L : Nat} {xs : Nat → Int32} (hC : LC l G p s m meth cd sc L xs) {P : Cx → Mo → Prop} (E : L27 P) {b k : Nat} {X : Cx} {f : Nat → Int64} {M : Mo} {H : Heap} {locs : List Loc} {cells slots : Nat} {ls : Array Slot} {Q : State → Prop} (hb0 : s.heap.size ≤ b) (hcs : cells ≤ 3000) (hss : slots ≤ 30000) (hk4 : k + 4 ≤ L) (hP : LX G b (X, f) M H) (hR : P X M) (hS : va_S (frm s.heap.size) s.heap H locs) (hl : lv_has ls 7 [(0, .ref sc), (1, .ref b), (2, .ref (b + 170)), (3, .ref (b + 178)), (4, .int (nI k))])
    (kk : ∀ (S1 : Wx) (M1 : Mo) (H1 : Heap) (locs1 : List Loc) (ls1 : Array Slot) (cells1 slots1 : Nat), P S1.1 M1 → LX G b S1 M1 H1 → va_S (frm s.heap.size) s.heap H1 locs1 → lv_has ls1 7 [(0, .ref sc), (1, .ref b), (2, .ref (b + 170)), (3, .ref (b + 178)), (4, .int (nI k))] → cells1 ≤ cells + 1 → slots1 ≤ slots + 6 → W p l e room_1 s m #[.ref sc] below meth cd H1 locs1 cells1 slots1 Q (F0 m 1806 ls1 [])) : W p l e room_1 s m #[.ref sc] below meth cd H locs cells slots Q (F0 m 742 ls []) := by
  obtain ⟨hx, hb, hr, hml, hown, hts, hX, hsc, hlocks, hO, hTh, hN, hAO, hst, hL⟩ := hC
  refine lv_aload_n hx hb dL_law_742 rfl (lv_at hl 1 rfl) ?_
  refine lv_aload_n hx hb dL_law_743 rfl (lv_at hl 0 rfl) ?_
  refine lv_iload hx hb dL_law_744 (lv_at hl 4 rfl) ?_
  refine lv_iconst (v := 1) hx hb dL_law_746 (by decide) ?_
  refine iadd_n (a := k) (b := 1) hx hb dL_law_747 ?_
  refine sld_n (j := k + 1) hx hb hX hsc hS (by omega) hL dL_law_748 ?_
  refine lv_aload_n hx hb dL_law_749 rfl (lv_at hl 3 rfl) ?_
  refine cl_mx (xSW (A := wfr b (b + 178)) (As := [.ref b, .int (xs (k + 1)), .ref (b + 178)]) (rest := []) ⟨hx, hb, hml, hown, hts⟩ (c_L_leave l G b (b + 178) (X, f) (xs (k + 1)) hst (.inr (by omega)) (E.o14 hR) (E.k14 hR)) (vx_cwSW 3 hts gL_law_L_leave rfl rfl rfl (by decide +kernel) ⟨Nat.le_of_ble_eq_true rfl, Nat.le_of_ble_eq_true rfl⟩) hP.1 hO (fun U hU hW => (hTh.kept hW (by rw [hU]; exact hS.2.1)).sub (fun q hq => by rcases hq with hq | hq; exact Nat.le_trans hb0 hq.1; exact Nat.le_trans hb0 (by omega))) hN rfl hl.1 (Nat.le_of_ble_eq_true rfl) dL_law_750 ⟨by show cells + 0 + 1 ≤ 601024; omega, by show slots + 0 + 6 ≤ 7293034; omega⟩) (fun H1 L1 hP1 hz1 hk1 hL1 => ?_)
  have hS := S_app hS hz1 hk1 hL1 (fun q hq => by rcases hq with hq | hq; exact Nat.le_trans hb0 hq.1; exact Nat.le_trans hb0 (by omega))
  have hP := lx_w hP hP1 hk1
  refine lv_istore (lv' := [(5, .int ((wr "java/lang/IndexOutOfBoundsException" (h_X6_leave X (xs (k + 1))) (X, f)).1)), (0, .ref sc), (1, .ref b), (2, .ref (b + 170)), (3, .ref (b + 178)), (4, .int (nI k))]) hx hb dL_law_753 hl (by decide) rfl (fun ls hl => ?_)
  refine lv_aload_n hx hb dL_law_755 rfl (lv_at hl 3 rfl) ?_
  refine lv_aload_n hx hb dL_law_756 rfl (lv_at hl 1 rfl) ?_
  refine lv_iload hx hb dL_law_757 (lv_at hl 5 rfl) ?_
  refine lv_iconst (v := 1) hx hb dL_law_759 (by decide) ?_
  refine iadd_n (a := k) (b := 1) hx hb dL_law_760 ?_
  refine sld_n (j := k + 1) hx hb hX hsc hS (by omega) hL dL_law_761 ?_
  refine cl_mi (rV (As := [.int (xs (k + 1))]) (rest := []) ⟨hx, hb, hml, hown, hts⟩ (c_X7_leave l G (b + 170) M (xs (k + 1)) (E.ri hR) (E.mc hR) (E.mc14 hR)) (cwV 1 hts gL_law_X7_leave rfl rfl rfl (by decide +kernel) ⟨Nat.le_of_ble_eq_true rfl, Nat.le_of_ble_eq_true rfl⟩) (md_recv hO hP.2) hP.2 hO rfl hl.1 (Nat.le_of_ble_eq_true rfl) dL_law_762 ⟨by show cells + 1 + 0 ≤ 601024; omega, by show slots + 6 + 0 ≤ 7293034; omega⟩) hS (fun q hq => Nat.le_trans hb0 (Nat.le_trans (Nat.le_add_right _ _) hq.1)) (fun H2 locs2 hP2 hz2 hk2 hS => ?_)
  have hP := lx_m hP hP2 hk2
  have hop := E.o_leave (f := f) (xs (k + 1)) hR
  refine lv_istore (lv' := [(6, .int ((h_X7_leave M (xs (k + 1))).1)), (5, .int ((wr "java/lang/IndexOutOfBoundsException" (h_X6_leave X (xs (k + 1))) (X, f)).1)), (0, .ref sc), (1, .ref b), (2, .ref (b + 170)), (3, .ref (b + 178)), (4, .int (nI k))]) hx hb dL_law_765 hl (by decide) rfl (fun ls hl => ?_)
  refine lv_aload_n hx hb dL_law_767 rfl (lv_at hl 4 rfl) ?_
  refine cl_pi (rV (As := []) (rest := []) ⟨hx, hb, hml, hown, hts⟩ (c_X7_thrown l G (b + 170) ((h_X7_leave M (xs (k + 1))).2)) (cwV 0 hts gL_law_X7_thrown rfl rfl rfl (by decide +kernel) ⟨Nat.le_of_ble_eq_true rfl, Nat.le_of_ble_eq_true rfl⟩) (md_recv hO hP.2) hP.2 hO rfl hl.1 (Nat.le_of_ble_eq_true rfl) dL_law_768 ⟨by show cells + 1 + 0 ≤ 601024; omega, by show slots + 6 + 0 ≤ 7293034; omega⟩) ?_
  refine lv_iload hx hb dL_law_771 (lv_at hl 1 rfl) ?_
  refine lv_icmp_eq (tgt := 778) hx hb dL_law_773 (by decide) (fun c3 => ?_) (fun c3 => ?_)
  rotate_left
  · exact absurd hop.1 c3
  refine lv_iload hx hb dL_law_778 (lv_at hl 1 rfl) ?_
  refine lv_if_ne (tgt := 795) hx hb dL_law_780 (by decide) (fun c4 => ?_) (fun c4 => ?_)
  · refine lv_goto (tgt := 1806) hx hb dL_law_795 (by decide) ?_
    exact kk _ _ _ _ _ _ _ hop.2.1 hP hS (lv_sub hl [2, 3, 4, 5, 6] rfl) (by omega) (by omega)
  · refine lv_aload_n hx hb dL_law_783 rfl (lv_at hl 5 rfl) ?_
    refine lv_iconst (v := 0) hx hb dL_law_784 (by decide) ?_
    refine va_lald hx hb hO.1 hP.1.2 0 4 rfl rfl (by unfold vp_in; decide) dL_law_785 ?_
    refine lv_iload hx hb dL_law_786 (lv_at hl 0 rfl) ?_
    refine lv_i2l (v := ((h_X7_leave M (xs (k + 1))).1).toInt64) hx hb dL_law_788 rfl ?_
    refine W.lcmp hx hb dL_law_789 ?_
    refine lv_if_eq (tgt := 795) hx hb dL_law_790 (by decide) (fun c5 => ?_) (fun c5 => ?_)
    rotate_left
    · exact absurd (by rw [hop.2.2 c4]; exact lg_self _) c5
    refine lv_goto (tgt := 1806) hx hb dL_law_795 (by decide) ?_
    exact kk _ _ _ _ _ _ _ hop.2.1 hP hS (lv_sub hl [2, 3, 4, 5, 6] rfl) (by omega) (by omega)

set_option maxHeartbeats 4000000 in
set_option maxRecDepth 100000 in
theorem cs_tow {l : Launch} {G : GG} {p : Program} {e : Env} {s : State} {m : MethodId} {below : List Frame} {meth : Method} {cd : Code} {sc L : Nat} {xs : Nat → Int32} (hC : LC l G p s m meth cd sc L xs) {P : Cx → Mo → Prop} (E : L27 P) {b k : Nat} {X : Cx} {f : Nat → Int64} {M : Mo} {H : Heap} {locs : List Loc} {cells slots : Nat} {ls : Array Slot} {Q : State → Prop} (hb0 : s.heap.size ≤ b) (hcs : cells ≤ 3000) (hss : slots ≤ 30000) (hk4 : k + 4 ≤ L) (hP : LX G b (X, f) M H) (hR : P X M) (hS : va_S (frm s.heap.size) s.heap H locs) (hl : lv_has ls 7 [(0, .ref sc), (1, .ref b), (2, .ref (b + 170)), (3, .ref (b + 178)), (4, .int (nI k))])
    (kk : ∀ (S1 : Wx) (M1 : Mo) (H1 : Heap) (locs1 : List Loc) (ls1 : Array Slot) (cells1 slots1 : Nat), P S1.1 M1 → LX G b S1 M1 H1 → va_S (frm s.heap.size) s.heap H1 locs1 → lv_has ls1 7 [(0, .ref sc), (1, .ref b), (2, .ref (b + 170)), (3, .ref (b + 178)), (4, .int (nI k))] → cells1 ≤ cells + 1 → slots1 ≤ slots + 6 → W p l e room_1 s m #[.ref sc] below meth cd H1 locs1 cells1 slots1 Q (F0 m 1806 ls1 [])) : W p l e room_1 s m #[.ref sc] below meth cd H locs cells slots Q (F0 m 798 ls []) := by
  obtain ⟨hx, hb, hr, hml, hown, hts, hX, hsc, hlocks, hO, hTh, hN, hAO, hst, hL⟩ := hC
  refine lv_aload_n hx hb dL_law_798 rfl (lv_at hl 1 rfl) ?_
  refine lv_aload_n hx hb dL_law_799 rfl (lv_at hl 0 rfl) ?_
  refine lv_iload hx hb dL_law_800 (lv_at hl 4 rfl) ?_
  refine lv_iconst (v := 1) hx hb dL_law_802 (by decide) ?_
  refine iadd_n (a := k) (b := 1) hx hb dL_law_803 ?_
  refine sld_n (j := k + 1) hx hb hX hsc hS (by omega) hL dL_law_804 ?_
  refine lv_aload_n hx hb dL_law_805 rfl (lv_at hl 3 rfl) ?_
  refine cl_mx (xSW (A := wfr b (b + 178)) (As := [.ref b, .int (xs (k + 1)), .ref (b + 178)]) (rest := []) ⟨hx, hb, hml, hown, hts⟩ (c_L_tow l G b (b + 178) (X, f) (xs (k + 1)) hst (.inr (by omega)) (E.o14 hR) (E.k14 hR)) (vx_cwSW 3 hts gL_law_L_tow rfl rfl rfl (by decide +kernel) ⟨Nat.le_of_ble_eq_true rfl, Nat.le_of_ble_eq_true rfl⟩) hP.1 hO (fun U hU hW => (hTh.kept hW (by rw [hU]; exact hS.2.1)).sub (fun q hq => by rcases hq with hq | hq; exact Nat.le_trans hb0 hq.1; exact Nat.le_trans hb0 (by omega))) hN rfl hl.1 (Nat.le_of_ble_eq_true rfl) dL_law_806 ⟨by show cells + 0 + 1 ≤ 601024; omega, by show slots + 0 + 6 ≤ 7293034; omega⟩) (fun H1 L1 hP1 hz1 hk1 hL1 => ?_)
  have hS := S_app hS hz1 hk1 hL1 (fun q hq => by rcases hq with hq | hq; exact Nat.le_trans hb0 hq.1; exact Nat.le_trans hb0 (by omega))
  have hP := lx_w hP hP1 hk1
  refine lv_istore (lv' := [(5, .int ((wr "java/lang/IndexOutOfBoundsException" (h_X6_tow X (xs (k + 1))) (X, f)).1)), (0, .ref sc), (1, .ref b), (2, .ref (b + 170)), (3, .ref (b + 178)), (4, .int (nI k))]) hx hb dL_law_809 hl (by decide) rfl (fun ls hl => ?_)
  refine lv_aload_n hx hb dL_law_811 rfl (lv_at hl 3 rfl) ?_
  refine lv_aload_n hx hb dL_law_812 rfl (lv_at hl 1 rfl) ?_
  refine lv_iload hx hb dL_law_813 (lv_at hl 5 rfl) ?_
  refine lv_iconst (v := 1) hx hb dL_law_815 (by decide) ?_
  refine iadd_n (a := k) (b := 1) hx hb dL_law_816 ?_
  refine sld_n (j := k + 1) hx hb hX hsc hS (by omega) hL dL_law_817 ?_
  refine cl_mi (rV (As := [.int (xs (k + 1))]) (rest := []) ⟨hx, hb, hml, hown, hts⟩ (c_X7_tow l G (b + 170) M (xs (k + 1)) (E.ri hR) (E.mc hR) (E.mc14 hR)) (cwV 1 hts gL_law_X7_tow rfl rfl rfl (by decide +kernel) ⟨Nat.le_of_ble_eq_true rfl, Nat.le_of_ble_eq_true rfl⟩) (md_recv hO hP.2) hP.2 hO rfl hl.1 (Nat.le_of_ble_eq_true rfl) dL_law_818 ⟨by show cells + 1 + 0 ≤ 601024; omega, by show slots + 6 + 0 ≤ 7293034; omega⟩) hS (fun q hq => Nat.le_trans hb0 (Nat.le_trans (Nat.le_add_right _ _) hq.1)) (fun H2 locs2 hP2 hz2 hk2 hS => ?_)
  have hP := lx_m hP hP2 hk2
  have hop := E.o_tow (f := f) (xs (k + 1)) hR
  refine lv_istore (lv' := [(6, .int ((h_X7_tow M (xs (k + 1))).1)), (5, .int ((wr "java/lang/IndexOutOfBoundsException" (h_X6_tow X (xs (k + 1))) (X, f)).1)), (0, .ref sc), (1, .ref b), (2, .ref (b + 170)), (3, .ref (b + 178)), (4, .int (nI k))]) hx hb dL_law_821 hl (by decide) rfl (fun ls hl => ?_)
  refine lv_aload_n hx hb dL_law_823 rfl (lv_at hl 4 rfl) ?_
  refine cl_pi (rV (As := []) (rest := []) ⟨hx, hb, hml, hown, hts⟩ (c_X7_thrown l G (b + 170) ((h_X7_tow M (xs (k + 1))).2)) (cwV 0 hts gL_law_X7_thrown rfl rfl rfl (by decide +kernel) ⟨Nat.le_of_ble_eq_true rfl, Nat.le_of_ble_eq_true rfl⟩) (md_recv hO hP.2) hP.2 hO rfl hl.1 (Nat.le_of_ble_eq_true rfl) dL_law_824 ⟨by show cells + 1 + 0 ≤ 601024; omega, by show slots + 6 + 0 ≤ 7293034; omega⟩) ?_
  refine lv_iload hx hb dL_law_827 (lv_at hl 1 rfl) ?_
  refine lv_icmp_eq (tgt := 834) hx hb dL_law_829 (by decide) (fun c3 => ?_) (fun c3 => ?_)
  rotate_left
  · exact absurd hop.1 c3
  refine lv_iload hx hb dL_law_834 (lv_at hl 1 rfl) ?_
  refine lv_if_ne (tgt := 851) hx hb dL_law_836 (by decide) (fun c4 => ?_) (fun c4 => ?_)
  · refine lv_goto (tgt := 1806) hx hb dL_law_851 (by decide) ?_
    exact kk _ _ _ _ _ _ _ hop.2.1 hP hS (lv_sub hl [2, 3, 4, 5, 6] rfl) (by omega) (by omega)
  · refine lv_aload_n hx hb dL_law_839 rfl (lv_at hl 5 rfl) ?_
    refine lv_iconst (v := 0) hx hb dL_law_840 (by decide) ?_
    refine va_lald hx hb hO.1 hP.1.2 0 4 rfl rfl (by unfold vp_in; decide) dL_law_841 ?_
    refine lv_iload hx hb dL_law_842 (lv_at hl 0 rfl) ?_
    refine lv_i2l (v := ((h_X7_tow M (xs (k + 1))).1).toInt64) hx hb dL_law_844 rfl ?_
    refine W.lcmp hx hb dL_law_845 ?_
    refine lv_if_eq (tgt := 851) hx hb dL_law_846 (by decide) (fun c5 => ?_) (fun c5 => ?_)
    rotate_left
    · exact absurd (by rw [hop.2.2 c4]; exact lg_self _) c5
    refine lv_goto (tgt := 1806) hx hb dL_law_851 (by decide) ?_
    exact kk _ _ _ _ _ _ _ hop.2.1 hP hS (lv_sub hl [2, 3, 4, 5, 6] rfl) (by omega) (by omega)

set_option maxHeartbeats 4000000 in
set_option maxRecDepth 100000 in
theorem cs_move {l : Launch} {G : GG} {p : Program} {e : Env} {s : State} {m : MethodId} {below : List Frame} {meth : Method} {cd : Code} {sc L : Nat} {xs : Nat → Int32} (hC : LC l G p s m meth cd sc L xs) {P : Cx → Mo → Prop} (E : L27 P) {b k : Nat} {X : Cx} {f : Nat → Int64} {M : Mo} {H : Heap} {locs : List Loc} {cells slots : Nat} {ls : Array Slot} {Q : State → Prop} (hb0 : s.heap.size ≤ b) (hcs : cells ≤ 3000) (hss : slots ≤ 30000) (hk4 : k + 4 ≤ L) (hP : LX G b (X, f) M H) (hR : P X M) (hS : va_S (frm s.heap.size) s.heap H locs) (hl : lv_has ls 7 [(0, .ref sc), (1, .ref b), (2, .ref (b + 170)), (3, .ref (b + 178)), (4, .int (nI k))])
    (kk : ∀ (S1 : Wx) (M1 : Mo) (H1 : Heap) (locs1 : List Loc) (ls1 : Array Slot) (cells1 slots1 : Nat), P S1.1 M1 → LX G b S1 M1 H1 → va_S (frm s.heap.size) s.heap H1 locs1 → lv_has ls1 7 [(0, .ref sc), (1, .ref b), (2, .ref (b + 170)), (3, .ref (b + 178)), (4, .int (nI k))] → cells1 ≤ cells + 1 → slots1 ≤ slots + 6 → W p l e room_1 s m #[.ref sc] below meth cd H1 locs1 cells1 slots1 Q (F0 m 1806 ls1 [])) : W p l e room_1 s m #[.ref sc] below meth cd H locs cells slots Q (F0 m 854 ls []) := by
  obtain ⟨hx, hb, hr, hml, hown, hts, hX, hsc, hlocks, hO, hTh, hN, hAO, hst, hL⟩ := hC
  refine lv_aload_n hx hb dL_law_854 rfl (lv_at hl 1 rfl) ?_
  refine lv_aload_n hx hb dL_law_855 rfl (lv_at hl 0 rfl) ?_
  refine lv_iload hx hb dL_law_856 (lv_at hl 4 rfl) ?_
  refine lv_iconst (v := 1) hx hb dL_law_858 (by decide) ?_
  refine iadd_n (a := k) (b := 1) hx hb dL_law_859 ?_
  refine sld_n (j := k + 1) hx hb hX hsc hS (by omega) hL dL_law_860 ?_
  refine lv_aload_n hx hb dL_law_861 rfl (lv_at hl 0 rfl) ?_
  refine lv_iload hx hb dL_law_862 (lv_at hl 4 rfl) ?_
  refine lv_iconst (v := 2) hx hb dL_law_864 (by decide) ?_
  refine iadd_n (a := k) (b := 2) hx hb dL_law_865 ?_
  refine sld_n (j := k + 2) hx hb hX hsc hS (by omega) hL dL_law_866 ?_
  refine lv_aload_n hx hb dL_law_867 rfl (lv_at hl 3 rfl) ?_
  refine cl_mx (xSW (A := wfr b (b + 178)) (As := [.ref b, .int (xs (k + 1)), .int (xs (k + 2)), .ref (b + 178)]) (rest := []) ⟨hx, hb, hml, hown, hts⟩ (c_L_move l G b (b + 178) (X, f) (xs (k + 1)) (xs (k + 2)) hst (.inr (by omega)) (E.o14 hR) (E.k14 hR)) (vx_cwSW 4 hts gL_law_L_move rfl rfl rfl (by decide +kernel) ⟨Nat.le_of_ble_eq_true rfl, Nat.le_of_ble_eq_true rfl⟩) hP.1 hO (fun U hU hW => (hTh.kept hW (by rw [hU]; exact hS.2.1)).sub (fun q hq => by rcases hq with hq | hq; exact Nat.le_trans hb0 hq.1; exact Nat.le_trans hb0 (by omega))) hN rfl hl.1 (Nat.le_of_ble_eq_true rfl) dL_law_868 ⟨by show cells + 0 + 1 ≤ 601024; omega, by show slots + 0 + 6 ≤ 7293034; omega⟩) (fun H1 L1 hP1 hz1 hk1 hL1 => ?_)
  have hS := S_app hS hz1 hk1 hL1 (fun q hq => by rcases hq with hq | hq; exact Nat.le_trans hb0 hq.1; exact Nat.le_trans hb0 (by omega))
  have hP := lx_w hP hP1 hk1
  refine lv_istore (lv' := [(5, .int ((wr "java/lang/IndexOutOfBoundsException" (h_X6_move X (xs (k + 1)) (xs (k + 2))) (X, f)).1)), (0, .ref sc), (1, .ref b), (2, .ref (b + 170)), (3, .ref (b + 178)), (4, .int (nI k))]) hx hb dL_law_871 hl (by decide) rfl (fun ls hl => ?_)
  refine lv_aload_n hx hb dL_law_873 rfl (lv_at hl 3 rfl) ?_
  refine lv_aload_n hx hb dL_law_874 rfl (lv_at hl 1 rfl) ?_
  refine lv_iload hx hb dL_law_875 (lv_at hl 5 rfl) ?_
  refine lv_iconst (v := 1) hx hb dL_law_877 (by decide) ?_
  refine iadd_n (a := k) (b := 1) hx hb dL_law_878 ?_
  refine sld_n (j := k + 1) hx hb hX hsc hS (by omega) hL dL_law_879 ?_
  refine lv_aload_n hx hb dL_law_880 rfl (lv_at hl 1 rfl) ?_
  refine lv_iload hx hb dL_law_881 (lv_at hl 5 rfl) ?_
  refine lv_iconst (v := 2) hx hb dL_law_883 (by decide) ?_
  refine iadd_n (a := k) (b := 2) hx hb dL_law_884 ?_
  refine sld_n (j := k + 2) hx hb hX hsc hS (by omega) hL dL_law_885 ?_
  refine cl_mi (rV (As := [.int (xs (k + 1)), .int (xs (k + 2))]) (rest := []) ⟨hx, hb, hml, hown, hts⟩ (c_X7_move l G (b + 170) M (xs (k + 1)) (xs (k + 2)) (E.ri hR) (E.mc hR) (E.mc14 hR)) (cwV 2 hts gL_law_X7_move rfl rfl rfl (by decide +kernel) ⟨Nat.le_of_ble_eq_true rfl, Nat.le_of_ble_eq_true rfl⟩) (md_recv hO hP.2) hP.2 hO rfl hl.1 (Nat.le_of_ble_eq_true rfl) dL_law_886 ⟨by show cells + 1 + 0 ≤ 601024; omega, by show slots + 6 + 0 ≤ 7293034; omega⟩) hS (fun q hq => Nat.le_trans hb0 (Nat.le_trans (Nat.le_add_right _ _) hq.1)) (fun H2 locs2 hP2 hz2 hk2 hS => ?_)
  have hP := lx_m hP hP2 hk2
  have hop := E.o_move (f := f) (xs (k + 1)) (xs (k + 2)) hR
  refine lv_istore (lv' := [(6, .int ((h_X7_move M (xs (k + 1)) (xs (k + 2))).1)), (5, .int ((wr "java/lang/IndexOutOfBoundsException" (h_X6_move X (xs (k + 1)) (xs (k + 2))) (X, f)).1)), (0, .ref sc), (1, .ref b), (2, .ref (b + 170)), (3, .ref (b + 178)), (4, .int (nI k))]) hx hb dL_law_889 hl (by decide) rfl (fun ls hl => ?_)
  refine lv_aload_n hx hb dL_law_891 rfl (lv_at hl 4 rfl) ?_
  refine cl_pi (rV (As := []) (rest := []) ⟨hx, hb, hml, hown, hts⟩ (c_X7_thrown l G (b + 170) ((h_X7_move M (xs (k + 1)) (xs (k + 2))).2)) (cwV 0 hts gL_law_X7_thrown rfl rfl rfl (by decide +kernel) ⟨Nat.le_of_ble_eq_true rfl, Nat.le_of_ble_eq_true rfl⟩) (md_recv hO hP.2) hP.2 hO rfl hl.1 (Nat.le_of_ble_eq_true rfl) dL_law_892 ⟨by show cells + 1 + 0 ≤ 601024; omega, by show slots + 6 + 0 ≤ 7293034; omega⟩) ?_
  refine lv_iload hx hb dL_law_895 (lv_at hl 1 rfl) ?_
  refine lv_icmp_eq (tgt := 902) hx hb dL_law_897 (by decide) (fun c3 => ?_) (fun c3 => ?_)
  rotate_left
  · exact absurd hop.1 c3
  refine lv_iload hx hb dL_law_902 (lv_at hl 1 rfl) ?_
  refine lv_if_ne (tgt := 919) hx hb dL_law_904 (by decide) (fun c4 => ?_) (fun c4 => ?_)
  · refine lv_goto (tgt := 1806) hx hb dL_law_919 (by decide) ?_
    exact kk _ _ _ _ _ _ _ hop.2.1 hP hS (lv_sub hl [2, 3, 4, 5, 6] rfl) (by omega) (by omega)
  · refine lv_aload_n hx hb dL_law_907 rfl (lv_at hl 5 rfl) ?_
    refine lv_iconst (v := 0) hx hb dL_law_908 (by decide) ?_
    refine va_lald hx hb hO.1 hP.1.2 0 4 rfl rfl (by unfold vp_in; decide) dL_law_909 ?_
    refine lv_iload hx hb dL_law_910 (lv_at hl 0 rfl) ?_
    refine lv_i2l (v := ((h_X7_move M (xs (k + 1)) (xs (k + 2))).1).toInt64) hx hb dL_law_912 rfl ?_
    refine W.lcmp hx hb dL_law_913 ?_
    refine lv_if_eq (tgt := 919) hx hb dL_law_914 (by decide) (fun c5 => ?_) (fun c5 => ?_)
    rotate_left
    · exact absurd (by rw [hop.2.2 c4]; exact lg_self _) c5
    refine lv_goto (tgt := 1806) hx hb dL_law_919 (by decide) ?_
    exact kk _ _ _ _ _ _ _ hop.2.1 hP hS (lv_sub hl [2, 3, 4, 5, 6] rfl) (by omega) (by omega)

set_option maxHeartbeats 4000000 in
set_option maxRecDepth 100000 in
theorem cs_minutes {l : Launch} {G : GG} {p : Program} {e : Env} {s : State} {m : MethodId} {below : List Frame} {meth : Method} {cd : Code} {sc L : Nat} {xs : Nat → Int32} (hC : LC l G p s m meth cd sc L xs) {P : Cx → Mo → Prop} (E : L27 P) {b k : Nat} {X : Cx} {f : Nat → Int64} {M : Mo} {H : Heap} {locs : List Loc} {cells slots : Nat} {ls : Array Slot} {Q : State → Prop} (hb0 : s.heap.size ≤ b) (hcs : cells ≤ 3000) (hss : slots ≤ 30000) (hk4 : k + 4 ≤ L) (hP : LX G b (X, f) M H) (hR : P X M) (hS : va_S (frm s.heap.size) s.heap H locs) (hl : lv_has ls 7 [(0, .ref sc), (1, .ref b), (2, .ref (b + 170)), (3, .ref (b + 178)), (4, .int (nI k))])
    (kk : ∀ (S1 : Wx) (M1 : Mo) (H1 : Heap) (locs1 : List Loc) (ls1 : Array Slot) (cells1 slots1 : Nat), P S1.1 M1 → LX G b S1 M1 H1 → va_S (frm s.heap.size) s.heap H1 locs1 → lv_has ls1 7 [(0, .ref sc), (1, .ref b), (2, .ref (b + 170)), (3, .ref (b + 178)), (4, .int (nI k))] → cells1 ≤ cells + 1 → slots1 ≤ slots + 6 → W p l e room_1 s m #[.ref sc] below meth cd H1 locs1 cells1 slots1 Q (F0 m 1806 ls1 [])) : W p l e room_1 s m #[.ref sc] below meth cd H locs cells slots Q (F0 m 922 ls []) := by
  obtain ⟨hx, hb, hr, hml, hown, hts, hX, hsc, hlocks, hO, hTh, hN, hAO, hst, hL⟩ := hC
  refine lv_aload_n hx hb dL_law_922 rfl (lv_at hl 1 rfl) ?_
  refine lv_aload_n hx hb dL_law_923 rfl (lv_at hl 0 rfl) ?_
  refine lv_iload hx hb dL_law_924 (lv_at hl 4 rfl) ?_
  refine lv_iconst (v := 1) hx hb dL_law_926 (by decide) ?_
  refine iadd_n (a := k) (b := 1) hx hb dL_law_927 ?_
  refine sld_n (j := k + 1) hx hb hX hsc hS (by omega) hL dL_law_928 ?_
  refine lv_aload_n hx hb dL_law_929 rfl (lv_at hl 3 rfl) ?_
  refine cl_mx (xSW (A := wfr b (b + 178)) (As := [.ref b, .int (xs (k + 1)), .ref (b + 178)]) (rest := []) ⟨hx, hb, hml, hown, hts⟩ (c_L_minutes l G b (b + 178) (X, f) (xs (k + 1)) hst (.inr (by omega)) (E.o14 hR) (E.k14 hR)) (vx_cwSW 3 hts gL_law_L_minutes rfl rfl rfl (by decide +kernel) ⟨Nat.le_of_ble_eq_true rfl, Nat.le_of_ble_eq_true rfl⟩) hP.1 hO (fun U hU hW => (hTh.kept hW (by rw [hU]; exact hS.2.1)).sub (fun q hq => by rcases hq with hq | hq; exact Nat.le_trans hb0 hq.1; exact Nat.le_trans hb0 (by omega))) hN rfl hl.1 (Nat.le_of_ble_eq_true rfl) dL_law_930 ⟨by show cells + 0 + 1 ≤ 601024; omega, by show slots + 0 + 6 ≤ 7293034; omega⟩) (fun H1 L1 hP1 hz1 hk1 hL1 => ?_)
  have hS := S_app hS hz1 hk1 hL1 (fun q hq => by rcases hq with hq | hq; exact Nat.le_trans hb0 hq.1; exact Nat.le_trans hb0 (by omega))
  have hP := lx_w hP hP1 hk1
  refine lv_istore (lv' := [(5, .int ((wr "java/lang/IllegalArgumentException" (h_X6_minutes X (xs (k + 1))) (X, f)).1)), (0, .ref sc), (1, .ref b), (2, .ref (b + 170)), (3, .ref (b + 178)), (4, .int (nI k))]) hx hb dL_law_933 hl (by decide) rfl (fun ls hl => ?_)
  refine lv_aload_n hx hb dL_law_935 rfl (lv_at hl 3 rfl) ?_
  refine lv_aload_n hx hb dL_law_936 rfl (lv_at hl 1 rfl) ?_
  refine lv_iload hx hb dL_law_937 (lv_at hl 5 rfl) ?_
  refine lv_iconst (v := 1) hx hb dL_law_939 (by decide) ?_
  refine iadd_n (a := k) (b := 1) hx hb dL_law_940 ?_
  refine sld_n (j := k + 1) hx hb hX hsc hS (by omega) hL dL_law_941 ?_
  refine cl_mi (rV (As := [.int (xs (k + 1))]) (rest := []) ⟨hx, hb, hml, hown, hts⟩ (c_X7_minutes l G (b + 170) M (xs (k + 1)) (E.ri hR) (E.mc hR) (E.mc14 hR)) (cwV 1 hts gL_law_X7_minutes rfl rfl rfl (by decide +kernel) ⟨Nat.le_of_ble_eq_true rfl, Nat.le_of_ble_eq_true rfl⟩) (md_recv hO hP.2) hP.2 hO rfl hl.1 (Nat.le_of_ble_eq_true rfl) dL_law_942 ⟨by show cells + 1 + 0 ≤ 601024; omega, by show slots + 6 + 0 ≤ 7293034; omega⟩) hS (fun q hq => Nat.le_trans hb0 (Nat.le_trans (Nat.le_add_right _ _) hq.1)) (fun H2 locs2 hP2 hz2 hk2 hS => ?_)
  have hP := lx_m hP hP2 hk2
  have hop := E.o_minutes (f := f) (xs (k + 1)) hR
  refine lv_istore (lv' := [(6, .int ((h_X7_minutes M (xs (k + 1))).1)), (5, .int ((wr "java/lang/IllegalArgumentException" (h_X6_minutes X (xs (k + 1))) (X, f)).1)), (0, .ref sc), (1, .ref b), (2, .ref (b + 170)), (3, .ref (b + 178)), (4, .int (nI k))]) hx hb dL_law_945 hl (by decide) rfl (fun ls hl => ?_)
  refine lv_aload_n hx hb dL_law_947 rfl (lv_at hl 4 rfl) ?_
  refine cl_pi (rV (As := []) (rest := []) ⟨hx, hb, hml, hown, hts⟩ (c_X7_thrown l G (b + 170) ((h_X7_minutes M (xs (k + 1))).2)) (cwV 0 hts gL_law_X7_thrown rfl rfl rfl (by decide +kernel) ⟨Nat.le_of_ble_eq_true rfl, Nat.le_of_ble_eq_true rfl⟩) (md_recv hO hP.2) hP.2 hO rfl hl.1 (Nat.le_of_ble_eq_true rfl) dL_law_948 ⟨by show cells + 1 + 0 ≤ 601024; omega, by show slots + 6 + 0 ≤ 7293034; omega⟩) ?_
  refine lv_iload hx hb dL_law_951 (lv_at hl 1 rfl) ?_
  refine lv_icmp_eq (tgt := 958) hx hb dL_law_953 (by decide) (fun c3 => ?_) (fun c3 => ?_)
  rotate_left
  · exact absurd hop.1 c3
  refine lv_iload hx hb dL_law_958 (lv_at hl 1 rfl) ?_
  refine lv_if_ne (tgt := 975) hx hb dL_law_960 (by decide) (fun c4 => ?_) (fun c4 => ?_)
  · refine lv_goto (tgt := 1806) hx hb dL_law_975 (by decide) ?_
    exact kk _ _ _ _ _ _ _ hop.2.1 hP hS (lv_sub hl [2, 3, 4, 5, 6] rfl) (by omega) (by omega)
  · refine lv_aload_n hx hb dL_law_963 rfl (lv_at hl 5 rfl) ?_
    refine lv_iconst (v := 0) hx hb dL_law_964 (by decide) ?_
    refine va_lald hx hb hO.1 hP.1.2 0 4 rfl rfl (by unfold vp_in; decide) dL_law_965 ?_
    refine lv_iload hx hb dL_law_966 (lv_at hl 0 rfl) ?_
    refine lv_i2l (v := ((h_X7_minutes M (xs (k + 1))).1).toInt64) hx hb dL_law_968 rfl ?_
    refine W.lcmp hx hb dL_law_969 ?_
    refine lv_if_eq (tgt := 975) hx hb dL_law_970 (by decide) (fun c5 => ?_) (fun c5 => ?_)
    rotate_left
    · exact absurd (by rw [hop.2.2 c4]; exact lg_self _) c5
    refine lv_goto (tgt := 1806) hx hb dL_law_975 (by decide) ?_
    exact kk _ _ _ _ _ _ _ hop.2.1 hP hS (lv_sub hl [2, 3, 4, 5, 6] rfl) (by omega) (by omega)

set_option maxHeartbeats 4000000 in
set_option maxRecDepth 100000 in
theorem cs_set {l : Launch} {G : GG} {p : Program} {e : Env} {s : State} {m : MethodId} {below : List Frame} {meth : Method} {cd : Code} {sc L : Nat} {xs : Nat → Int32} (hC : LC l G p s m meth cd sc L xs) {P : Cx → Mo → Prop} (E : L27 P) {b k : Nat} {X : Cx} {f : Nat → Int64} {M : Mo} {H : Heap} {locs : List Loc} {cells slots : Nat} {ls : Array Slot} {Q : State → Prop} (hb0 : s.heap.size ≤ b) (hcs : cells ≤ 3000) (hss : slots ≤ 30000) (hk4 : k + 4 ≤ L) (hP : LX G b (X, f) M H) (hR : P X M) (hS : va_S (frm s.heap.size) s.heap H locs) (hl : lv_has ls 7 [(0, .ref sc), (1, .ref b), (2, .ref (b + 170)), (3, .ref (b + 178)), (4, .int (nI k))])
    (kk : ∀ (S1 : Wx) (M1 : Mo) (H1 : Heap) (locs1 : List Loc) (ls1 : Array Slot) (cells1 slots1 : Nat), P S1.1 M1 → LX G b S1 M1 H1 → va_S (frm s.heap.size) s.heap H1 locs1 → lv_has ls1 7 [(0, .ref sc), (1, .ref b), (2, .ref (b + 170)), (3, .ref (b + 178)), (4, .int (nI k))] → cells1 ≤ cells + 1 → slots1 ≤ slots + 6 → W p l e room_1 s m #[.ref sc] below meth cd H1 locs1 cells1 slots1 Q (F0 m 1806 ls1 [])) : W p l e room_1 s m #[.ref sc] below meth cd H locs cells slots Q (F0 m 978 ls []) := by
  obtain ⟨hx, hb, hr, hml, hown, hts, hX, hsc, hlocks, hO, hTh, hN, hAO, hst, hL⟩ := hC
  refine lv_aload_n hx hb dL_law_978 rfl (lv_at hl 1 rfl) ?_
  refine lv_aload_n hx hb dL_law_979 rfl (lv_at hl 0 rfl) ?_
  refine lv_iload hx hb dL_law_980 (lv_at hl 4 rfl) ?_
  refine lv_iconst (v := 1) hx hb dL_law_982 (by decide) ?_
  refine iadd_n (a := k) (b := 1) hx hb dL_law_983 ?_
  refine sld_n (j := k + 1) hx hb hX hsc hS (by omega) hL dL_law_984 ?_
  refine lv_aload_n hx hb dL_law_985 rfl (lv_at hl 0 rfl) ?_
  refine lv_iload hx hb dL_law_986 (lv_at hl 4 rfl) ?_
  refine lv_iconst (v := 2) hx hb dL_law_988 (by decide) ?_
  refine iadd_n (a := k) (b := 2) hx hb dL_law_989 ?_
  refine sld_n (j := k + 2) hx hb hX hsc hS (by omega) hL dL_law_990 ?_
  refine lv_aload_n hx hb dL_law_991 rfl (lv_at hl 3 rfl) ?_
  refine cl_mx (xSW (A := wfr b (b + 178)) (As := [.ref b, .int (xs (k + 1)), .int (xs (k + 2)), .ref (b + 178)]) (rest := []) ⟨hx, hb, hml, hown, hts⟩ (c_L_set l G b (b + 178) (X, f) (xs (k + 1)) (xs (k + 2)) hst (.inr (by omega)) (E.o14 hR) (E.k14 hR)) (vx_cwSW 4 hts gL_law_L_set rfl rfl rfl (by decide +kernel) ⟨Nat.le_of_ble_eq_true rfl, Nat.le_of_ble_eq_true rfl⟩) hP.1 hO (fun U hU hW => (hTh.kept hW (by rw [hU]; exact hS.2.1)).sub (fun q hq => by rcases hq with hq | hq; exact Nat.le_trans hb0 hq.1; exact Nat.le_trans hb0 (by omega))) hN rfl hl.1 (Nat.le_of_ble_eq_true rfl) dL_law_992 ⟨by show cells + 0 + 1 ≤ 601024; omega, by show slots + 0 + 6 ≤ 7293034; omega⟩) (fun H1 L1 hP1 hz1 hk1 hL1 => ?_)
  have hS := S_app hS hz1 hk1 hL1 (fun q hq => by rcases hq with hq | hq; exact Nat.le_trans hb0 hq.1; exact Nat.le_trans hb0 (by omega))
  have hP := lx_w hP hP1 hk1
  refine lv_istore (lv' := [(5, .int ((wr "java/lang/IllegalArgumentException" (h_X6_set X (xs (k + 1)) (xs (k + 2))) (X, f)).1)), (0, .ref sc), (1, .ref b), (2, .ref (b + 170)), (3, .ref (b + 178)), (4, .int (nI k))]) hx hb dL_law_995 hl (by decide) rfl (fun ls hl => ?_)
  refine lv_aload_n hx hb dL_law_997 rfl (lv_at hl 3 rfl) ?_
  refine lv_aload_n hx hb dL_law_998 rfl (lv_at hl 1 rfl) ?_
  refine lv_iload hx hb dL_law_999 (lv_at hl 5 rfl) ?_
  refine lv_iconst (v := 1) hx hb dL_law_1001 (by decide) ?_
  refine iadd_n (a := k) (b := 1) hx hb dL_law_1002 ?_
  refine sld_n (j := k + 1) hx hb hX hsc hS (by omega) hL dL_law_1003 ?_
  refine lv_aload_n hx hb dL_law_1004 rfl (lv_at hl 1 rfl) ?_
  refine lv_iload hx hb dL_law_1005 (lv_at hl 5 rfl) ?_
  refine lv_iconst (v := 2) hx hb dL_law_1007 (by decide) ?_
  refine iadd_n (a := k) (b := 2) hx hb dL_law_1008 ?_
  refine sld_n (j := k + 2) hx hb hX hsc hS (by omega) hL dL_law_1009 ?_
  refine cl_mi (rV (As := [.int (xs (k + 1)), .int (xs (k + 2))]) (rest := []) ⟨hx, hb, hml, hown, hts⟩ (c_X7_set l G (b + 170) M (xs (k + 1)) (xs (k + 2)) (E.ri hR) (E.mc hR) (E.mc14 hR)) (cwV 2 hts gL_law_X7_set rfl rfl rfl (by decide +kernel) ⟨Nat.le_of_ble_eq_true rfl, Nat.le_of_ble_eq_true rfl⟩) (md_recv hO hP.2) hP.2 hO rfl hl.1 (Nat.le_of_ble_eq_true rfl) dL_law_1010 ⟨by show cells + 1 + 0 ≤ 601024; omega, by show slots + 6 + 0 ≤ 7293034; omega⟩) hS (fun q hq => Nat.le_trans hb0 (Nat.le_trans (Nat.le_add_right _ _) hq.1)) (fun H2 locs2 hP2 hz2 hk2 hS => ?_)
  have hP := lx_m hP hP2 hk2
  have hop := E.o_set (f := f) (xs (k + 1)) (xs (k + 2)) hR
  refine lv_istore (lv' := [(6, .int ((h_X7_set M (xs (k + 1)) (xs (k + 2))).1)), (5, .int ((wr "java/lang/IllegalArgumentException" (h_X6_set X (xs (k + 1)) (xs (k + 2))) (X, f)).1)), (0, .ref sc), (1, .ref b), (2, .ref (b + 170)), (3, .ref (b + 178)), (4, .int (nI k))]) hx hb dL_law_1013 hl (by decide) rfl (fun ls hl => ?_)
  refine lv_aload_n hx hb dL_law_1015 rfl (lv_at hl 4 rfl) ?_
  refine cl_pi (rV (As := []) (rest := []) ⟨hx, hb, hml, hown, hts⟩ (c_X7_thrown l G (b + 170) ((h_X7_set M (xs (k + 1)) (xs (k + 2))).2)) (cwV 0 hts gL_law_X7_thrown rfl rfl rfl (by decide +kernel) ⟨Nat.le_of_ble_eq_true rfl, Nat.le_of_ble_eq_true rfl⟩) (md_recv hO hP.2) hP.2 hO rfl hl.1 (Nat.le_of_ble_eq_true rfl) dL_law_1016 ⟨by show cells + 1 + 0 ≤ 601024; omega, by show slots + 6 + 0 ≤ 7293034; omega⟩) ?_
  refine lv_iload hx hb dL_law_1019 (lv_at hl 1 rfl) ?_
  refine lv_icmp_eq (tgt := 1026) hx hb dL_law_1021 (by decide) (fun c3 => ?_) (fun c3 => ?_)
  rotate_left
  · exact absurd hop.1 c3
  refine lv_iload hx hb dL_law_1026 (lv_at hl 1 rfl) ?_
  refine lv_if_ne (tgt := 1043) hx hb dL_law_1028 (by decide) (fun c4 => ?_) (fun c4 => ?_)
  · refine lv_goto (tgt := 1806) hx hb dL_law_1043 (by decide) ?_
    exact kk _ _ _ _ _ _ _ hop.2.1 hP hS (lv_sub hl [2, 3, 4, 5, 6] rfl) (by omega) (by omega)
  · refine lv_aload_n hx hb dL_law_1031 rfl (lv_at hl 5 rfl) ?_
    refine lv_iconst (v := 0) hx hb dL_law_1032 (by decide) ?_
    refine va_lald hx hb hO.1 hP.1.2 0 4 rfl rfl (by unfold vp_in; decide) dL_law_1033 ?_
    refine lv_iload hx hb dL_law_1034 (lv_at hl 0 rfl) ?_
    refine lv_i2l (v := ((h_X7_set M (xs (k + 1)) (xs (k + 2))).1).toInt64) hx hb dL_law_1036 rfl ?_
    refine W.lcmp hx hb dL_law_1037 ?_
    refine lv_if_eq (tgt := 1043) hx hb dL_law_1038 (by decide) (fun c5 => ?_) (fun c5 => ?_)
    rotate_left
    · exact absurd (by rw [hop.2.2 c4]; exact lg_self _) c5
    refine lv_goto (tgt := 1806) hx hb dL_law_1043 (by decide) ?_
    exact kk _ _ _ _ _ _ _ hop.2.1 hP hS (lv_sub hl [2, 3, 4, 5, 6] rfl) (by omega) (by omega)

set_option maxHeartbeats 4000000 in
set_option maxRecDepth 100000 in
theorem cs_undo {l : Launch} {G : GG} {p : Program} {e : Env} {s : State} {m : MethodId} {below : List Frame} {meth : Method} {cd : Code} {sc L : Nat} {xs : Nat → Int32} (hC : LC l G p s m meth cd sc L xs) {P : Cx → Mo → Prop} (E : L27 P) {b k : Nat} {X : Cx} {f : Nat → Int64} {M : Mo} {H : Heap} {locs : List Loc} {cells slots : Nat} {ls : Array Slot} {Q : State → Prop} (hb0 : s.heap.size ≤ b) (hcs : cells ≤ 3000) (hss : slots ≤ 30000) (hk4 : k + 4 ≤ L) (hP : LX G b (X, f) M H) (hR : P X M) (hS : va_S (frm s.heap.size) s.heap H locs) (hl : lv_has ls 7 [(0, .ref sc), (1, .ref b), (2, .ref (b + 170)), (3, .ref (b + 178)), (4, .int (nI k))])
    (kk : ∀ (S1 : Wx) (M1 : Mo) (H1 : Heap) (locs1 : List Loc) (ls1 : Array Slot) (cells1 slots1 : Nat), P S1.1 M1 → LX G b S1 M1 H1 → va_S (frm s.heap.size) s.heap H1 locs1 → lv_has ls1 7 [(0, .ref sc), (1, .ref b), (2, .ref (b + 170)), (3, .ref (b + 178)), (4, .int (nI k))] → cells1 ≤ cells + 1 → slots1 ≤ slots + 6 → W p l e room_1 s m #[.ref sc] below meth cd H1 locs1 cells1 slots1 Q (F0 m 1806 ls1 [])) : W p l e room_1 s m #[.ref sc] below meth cd H locs cells slots Q (F0 m 1046 ls []) := by
  obtain ⟨hx, hb, hr, hml, hown, hts, hX, hsc, hlocks, hO, hTh, hN, hAO, hst, hL⟩ := hC
  refine lv_aload_n hx hb dL_law_1046 rfl (lv_at hl 1 rfl) ?_
  refine lv_aload_n hx hb dL_law_1047 rfl (lv_at hl 3 rfl) ?_
  refine cl_mx (xSW (A := wfr b (b + 178)) (As := [.ref b, .ref (b + 178)]) (rest := []) ⟨hx, hb, hml, hown, hts⟩ (c_L_undo l G b (b + 178) (X, f)  hst (.inr (by omega)) (E.o14 hR) (E.k14 hR)) (vx_cwSW 2 hts gL_law_L_undo rfl rfl rfl (by decide +kernel) ⟨Nat.le_of_ble_eq_true rfl, Nat.le_of_ble_eq_true rfl⟩) hP.1 hO (fun U hU hW => (hTh.kept hW (by rw [hU]; exact hS.2.1)).sub (fun q hq => by rcases hq with hq | hq; exact Nat.le_trans hb0 hq.1; exact Nat.le_trans hb0 (by omega))) hN rfl hl.1 (Nat.le_of_ble_eq_true rfl) dL_law_1048 ⟨by show cells + 0 + 1 ≤ 601024; omega, by show slots + 0 + 6 ≤ 7293034; omega⟩) (fun H1 L1 hP1 hz1 hk1 hL1 => ?_)
  have hS := S_app hS hz1 hk1 hL1 (fun q hq => by rcases hq with hq | hq; exact Nat.le_trans hb0 hq.1; exact Nat.le_trans hb0 (by omega))
  have hP := lx_w hP hP1 hk1
  refine lv_istore (lv' := [(5, .int ((wr "java/lang/IllegalStateException" (h_X6_undo X ) (X, f)).1)), (0, .ref sc), (1, .ref b), (2, .ref (b + 170)), (3, .ref (b + 178)), (4, .int (nI k))]) hx hb dL_law_1051 hl (by decide) rfl (fun ls hl => ?_)
  refine lv_aload_n hx hb dL_law_1053 rfl (lv_at hl 3 rfl) ?_
  refine cl_mi (rV (As := []) (rest := []) ⟨hx, hb, hml, hown, hts⟩ (c_X7_undo l G (b + 170) M (E.ri hR) (E.mc hR) (E.mc14 hR)) (cwV 0 hts gL_law_X7_undo rfl rfl rfl (by decide +kernel) ⟨Nat.le_of_ble_eq_true rfl, Nat.le_of_ble_eq_true rfl⟩) (md_recv hO hP.2) hP.2 hO rfl hl.1 (Nat.le_of_ble_eq_true rfl) dL_law_1054 ⟨by show cells + 1 + 0 ≤ 601024; omega, by show slots + 6 + 0 ≤ 7293034; omega⟩) hS (fun q hq => Nat.le_trans hb0 (Nat.le_trans (Nat.le_add_right _ _) hq.1)) (fun H2 locs2 hP2 hz2 hk2 hS => ?_)
  have hP := lx_m hP hP2 hk2
  have hop := E.o_undo (f := f)  hR
  refine lv_istore (lv' := [(6, .int ((h_X7_undo M).1)), (5, .int ((wr "java/lang/IllegalStateException" (h_X6_undo X ) (X, f)).1)), (0, .ref sc), (1, .ref b), (2, .ref (b + 170)), (3, .ref (b + 178)), (4, .int (nI k))]) hx hb dL_law_1057 hl (by decide) rfl (fun ls hl => ?_)
  refine lv_aload_n hx hb dL_law_1059 rfl (lv_at hl 4 rfl) ?_
  refine cl_pi (rV (As := []) (rest := []) ⟨hx, hb, hml, hown, hts⟩ (c_X7_thrown l G (b + 170) ((h_X7_undo M).2)) (cwV 0 hts gL_law_X7_thrown rfl rfl rfl (by decide +kernel) ⟨Nat.le_of_ble_eq_true rfl, Nat.le_of_ble_eq_true rfl⟩) (md_recv hO hP.2) hP.2 hO rfl hl.1 (Nat.le_of_ble_eq_true rfl) dL_law_1060 ⟨by show cells + 1 + 0 ≤ 601024; omega, by show slots + 6 + 0 ≤ 7293034; omega⟩) ?_
  refine lv_iload hx hb dL_law_1063 (lv_at hl 1 rfl) ?_
  refine lv_icmp_eq (tgt := 1070) hx hb dL_law_1065 (by decide) (fun c3 => ?_) (fun c3 => ?_)
  rotate_left
  · exact absurd hop.1 c3
  refine lv_iload hx hb dL_law_1070 (lv_at hl 1 rfl) ?_
  refine lv_if_ne (tgt := 1087) hx hb dL_law_1072 (by decide) (fun c4 => ?_) (fun c4 => ?_)
  · refine lv_goto (tgt := 1806) hx hb dL_law_1087 (by decide) ?_
    exact kk _ _ _ _ _ _ _ hop.2.1 hP hS (lv_sub hl [2, 3, 4, 5, 6] rfl) (by omega) (by omega)
  · refine lv_aload_n hx hb dL_law_1075 rfl (lv_at hl 5 rfl) ?_
    refine lv_iconst (v := 0) hx hb dL_law_1076 (by decide) ?_
    refine va_lald hx hb hO.1 hP.1.2 0 4 rfl rfl (by unfold vp_in; decide) dL_law_1077 ?_
    refine lv_iload hx hb dL_law_1078 (lv_at hl 0 rfl) ?_
    refine lv_i2l (v := ((h_X7_undo M).1).toInt64) hx hb dL_law_1080 rfl ?_
    refine W.lcmp hx hb dL_law_1081 ?_
    refine lv_if_eq (tgt := 1087) hx hb dL_law_1082 (by decide) (fun c5 => ?_) (fun c5 => ?_)
    rotate_left
    · exact absurd (by rw [hop.2.2 c4]; exact lg_self _) c5
    refine lv_goto (tgt := 1806) hx hb dL_law_1087 (by decide) ?_
    exact kk _ _ _ _ _ _ _ hop.2.1 hP hS (lv_sub hl [2, 3, 4, 5, 6] rfl) (by omega) (by omega)

set_option maxHeartbeats 4000000 in
set_option maxRecDepth 100000 in
theorem cs_why {l : Launch} {G : GG} {p : Program} {e : Env} {s : State} {m : MethodId} {below : List Frame} {meth : Method} {cd : Code} {sc L : Nat} {xs : Nat → Int32} (hC : LC l G p s m meth cd sc L xs) {P : Cx → Mo → Prop} (E : L27 P) {b k : Nat} {X : Cx} {f : Nat → Int64} {M : Mo} {H : Heap} {locs : List Loc} {cells slots : Nat} {ls : Array Slot} {Q : State → Prop} (hb0 : s.heap.size ≤ b) (hcs : cells ≤ 3000) (hss : slots ≤ 30000) (hk4 : k + 4 ≤ L) (hP : LX G b (X, f) M H) (hR : P X M) (hS : va_S (frm s.heap.size) s.heap H locs) (hl : lv_has ls 7 [(0, .ref sc), (1, .ref b), (2, .ref (b + 170)), (3, .ref (b + 178)), (4, .int (nI k))])
    (kk : ∀ (S1 : Wx) (M1 : Mo) (H1 : Heap) (locs1 : List Loc) (ls1 : Array Slot) (cells1 slots1 : Nat), P S1.1 M1 → LX G b S1 M1 H1 → va_S (frm s.heap.size) s.heap H1 locs1 → lv_has ls1 7 [(0, .ref sc), (1, .ref b), (2, .ref (b + 170)), (3, .ref (b + 178)), (4, .int (nI k))] → cells1 ≤ cells + 1 → slots1 ≤ slots + 6 → W p l e room_1 s m #[.ref sc] below meth cd H1 locs1 cells1 slots1 Q (F0 m 1806 ls1 [])) : W p l e room_1 s m #[.ref sc] below meth cd H locs cells slots Q (F0 m 1090 ls []) := by
  obtain ⟨hx, hb, hr, hml, hown, hts, hX, hsc, hlocks, hO, hTh, hN, hAO, hst, hL⟩ := hC
  refine lv_aload_n hx hb dL_law_1090 rfl (lv_at hl 1 rfl) ?_
  refine lv_aload_n hx hb dL_law_1091 rfl (lv_at hl 0 rfl) ?_
  refine lv_iload hx hb dL_law_1092 (lv_at hl 4 rfl) ?_
  refine lv_iconst (v := 1) hx hb dL_law_1094 (by decide) ?_
  refine iadd_n (a := k) (b := 1) hx hb dL_law_1095 ?_
  refine sld_n (j := k + 1) hx hb hX hsc hS (by omega) hL dL_law_1096 ?_
  refine lv_aload_n hx hb dL_law_1097 rfl (lv_at hl 3 rfl) ?_
  refine cl_mx (xSW (A := wfr b (b + 178)) (As := [.ref b, .int (xs (k + 1)), .ref (b + 178)]) (rest := []) ⟨hx, hb, hml, hown, hts⟩ (c_L_why l G b (b + 178) (X, f) (xs (k + 1)) hst (.inr (by omega))) (vx_cwSW 3 hts gL_law_L_why rfl rfl rfl (by decide +kernel) ⟨Nat.le_of_ble_eq_true rfl, Nat.le_of_ble_eq_true rfl⟩) hP.1 hO (fun U hU hW => (hTh.kept hW (by rw [hU]; exact hS.2.1)).sub (fun q hq => by rcases hq with hq | hq; exact Nat.le_trans hb0 hq.1; exact Nat.le_trans hb0 (by omega))) hN rfl hl.1 (Nat.le_of_ble_eq_true rfl) dL_law_1098 ⟨by show cells + 0 + 1 ≤ 601024; omega, by show slots + 0 + 6 ≤ 7293034; omega⟩) (fun H1 L1 hP1 hz1 hk1 hL1 => ?_)
  have hS := S_app hS hz1 hk1 hL1 (fun q hq => by rcases hq with hq | hq; exact Nat.le_trans hb0 hq.1; exact Nat.le_trans hb0 (by omega))
  have hP := lx_w hP hP1 hk1
  refine lv_istore (lv' := [(5, .int ((wr "java/lang/IllegalArgumentException" (h_X6_why X (xs (k + 1))) (X, f)).1)), (0, .ref sc), (1, .ref b), (2, .ref (b + 170)), (3, .ref (b + 178)), (4, .int (nI k))]) hx hb dL_law_1101 hl (by decide) rfl (fun ls hl => ?_)
  refine lv_aload_n hx hb dL_law_1103 rfl (lv_at hl 3 rfl) ?_
  refine lv_aload_n hx hb dL_law_1104 rfl (lv_at hl 1 rfl) ?_
  refine lv_iload hx hb dL_law_1105 (lv_at hl 5 rfl) ?_
  refine lv_iconst (v := 1) hx hb dL_law_1107 (by decide) ?_
  refine iadd_n (a := k) (b := 1) hx hb dL_law_1108 ?_
  refine sld_n (j := k + 1) hx hb hX hsc hS (by omega) hL dL_law_1109 ?_
  refine cl_mi (rV (As := [.int (xs (k + 1))]) (rest := []) ⟨hx, hb, hml, hown, hts⟩ (c_X7_why l G (b + 170) M (xs (k + 1))) (cwV 1 hts gL_law_X7_why rfl rfl rfl (by decide +kernel) ⟨Nat.le_of_ble_eq_true rfl, Nat.le_of_ble_eq_true rfl⟩) (md_recv hO hP.2) hP.2 hO rfl hl.1 (Nat.le_of_ble_eq_true rfl) dL_law_1110 ⟨by show cells + 1 + 0 ≤ 601024; omega, by show slots + 6 + 0 ≤ 7293034; omega⟩) hS (fun q hq => Nat.le_trans hb0 (Nat.le_trans (Nat.le_add_right _ _) hq.1)) (fun H2 locs2 hP2 hz2 hk2 hS => ?_)
  have hP := lx_m hP hP2 hk2
  have hop := E.o_why (f := f) (xs (k + 1)) hR
  refine lv_istore (lv' := [(6, .int ((h_X7_why M (xs (k + 1))).1)), (5, .int ((wr "java/lang/IllegalArgumentException" (h_X6_why X (xs (k + 1))) (X, f)).1)), (0, .ref sc), (1, .ref b), (2, .ref (b + 170)), (3, .ref (b + 178)), (4, .int (nI k))]) hx hb dL_law_1113 hl (by decide) rfl (fun ls hl => ?_)
  refine lv_aload_n hx hb dL_law_1115 rfl (lv_at hl 4 rfl) ?_
  refine cl_pi (rV (As := []) (rest := []) ⟨hx, hb, hml, hown, hts⟩ (c_X7_thrown l G (b + 170) ((h_X7_why M (xs (k + 1))).2)) (cwV 0 hts gL_law_X7_thrown rfl rfl rfl (by decide +kernel) ⟨Nat.le_of_ble_eq_true rfl, Nat.le_of_ble_eq_true rfl⟩) (md_recv hO hP.2) hP.2 hO rfl hl.1 (Nat.le_of_ble_eq_true rfl) dL_law_1116 ⟨by show cells + 1 + 0 ≤ 601024; omega, by show slots + 6 + 0 ≤ 7293034; omega⟩) ?_
  refine lv_iload hx hb dL_law_1119 (lv_at hl 1 rfl) ?_
  refine lv_icmp_eq (tgt := 1126) hx hb dL_law_1121 (by decide) (fun c3 => ?_) (fun c3 => ?_)
  rotate_left
  · exact absurd hop.1 c3
  refine lv_iload hx hb dL_law_1126 (lv_at hl 1 rfl) ?_
  refine lv_if_ne (tgt := 1143) hx hb dL_law_1128 (by decide) (fun c4 => ?_) (fun c4 => ?_)
  · refine lv_goto (tgt := 1806) hx hb dL_law_1143 (by decide) ?_
    exact kk _ _ _ _ _ _ _ hop.2.1 hP hS (lv_sub hl [2, 3, 4, 5, 6] rfl) (by omega) (by omega)
  · refine lv_aload_n hx hb dL_law_1131 rfl (lv_at hl 5 rfl) ?_
    refine lv_iconst (v := 0) hx hb dL_law_1132 (by decide) ?_
    refine va_lald hx hb hO.1 hP.1.2 0 4 rfl rfl (by unfold vp_in; decide) dL_law_1133 ?_
    refine lv_iload hx hb dL_law_1134 (lv_at hl 0 rfl) ?_
    refine lv_i2l (v := ((h_X7_why M (xs (k + 1))).1).toInt64) hx hb dL_law_1136 rfl ?_
    refine W.lcmp hx hb dL_law_1137 ?_
    refine lv_if_eq (tgt := 1143) hx hb dL_law_1138 (by decide) (fun c5 => ?_) (fun c5 => ?_)
    rotate_left
    · exact absurd (by rw [hop.2.2 c4]; exact lg_self _) c5
    refine lv_goto (tgt := 1806) hx hb dL_law_1143 (by decide) ?_
    exact kk _ _ _ _ _ _ _ hop.2.1 hP hS (lv_sub hl [2, 3, 4, 5, 6] rfl) (by omega) (by omega)

set_option maxHeartbeats 4000000 in
set_option maxRecDepth 100000 in
theorem cs_place {l : Launch} {G : GG} {p : Program} {e : Env} {s : State} {m : MethodId} {below : List Frame} {meth : Method} {cd : Code} {sc L : Nat} {xs : Nat → Int32} (hC : LC l G p s m meth cd sc L xs) {P : Cx → Mo → Prop} (E : L27 P) {b k : Nat} {X : Cx} {f : Nat → Int64} {M : Mo} {H : Heap} {locs : List Loc} {cells slots : Nat} {ls : Array Slot} {Q : State → Prop} (hb0 : s.heap.size ≤ b) (hcs : cells ≤ 3000) (hss : slots ≤ 30000) (hk4 : k + 4 ≤ L) (hP : LX G b (X, f) M H) (hR : P X M) (hS : va_S (frm s.heap.size) s.heap H locs) (hl : lv_has ls 7 [(0, .ref sc), (1, .ref b), (2, .ref (b + 170)), (3, .ref (b + 178)), (4, .int (nI k))])
    (kk : ∀ (S1 : Wx) (M1 : Mo) (H1 : Heap) (locs1 : List Loc) (ls1 : Array Slot) (cells1 slots1 : Nat), P S1.1 M1 → LX G b S1 M1 H1 → va_S (frm s.heap.size) s.heap H1 locs1 → lv_has ls1 7 [(0, .ref sc), (1, .ref b), (2, .ref (b + 170)), (3, .ref (b + 178)), (4, .int (nI k))] → cells1 ≤ cells + 1 → slots1 ≤ slots + 6 → W p l e room_1 s m #[.ref sc] below meth cd H1 locs1 cells1 slots1 Q (F0 m 1806 ls1 [])) : W p l e room_1 s m #[.ref sc] below meth cd H locs cells slots Q (F0 m 1146 ls []) := by
  obtain ⟨hx, hb, hr, hml, hown, hts, hX, hsc, hlocks, hO, hTh, hN, hAO, hst, hL⟩ := hC
  refine lv_aload_n hx hb dL_law_1146 rfl (lv_at hl 1 rfl) ?_
  refine lv_aload_n hx hb dL_law_1147 rfl (lv_at hl 0 rfl) ?_
  refine lv_iload hx hb dL_law_1148 (lv_at hl 4 rfl) ?_
  refine lv_iconst (v := 1) hx hb dL_law_1150 (by decide) ?_
  refine iadd_n (a := k) (b := 1) hx hb dL_law_1151 ?_
  refine sld_n (j := k + 1) hx hb hX hsc hS (by omega) hL dL_law_1152 ?_
  refine lv_aload_n hx hb dL_law_1153 rfl (lv_at hl 3 rfl) ?_
  refine cl_mx (xSW (A := wfr b (b + 178)) (As := [.ref b, .int (xs (k + 1)), .ref (b + 178)]) (rest := []) ⟨hx, hb, hml, hown, hts⟩ (c_L_place l G b (b + 178) (X, f) (xs (k + 1)) hst (.inr (by omega))) (vx_cwSW 3 hts gL_law_L_place rfl rfl rfl (by decide +kernel) ⟨Nat.le_of_ble_eq_true rfl, Nat.le_of_ble_eq_true rfl⟩) hP.1 hO (fun U hU hW => (hTh.kept hW (by rw [hU]; exact hS.2.1)).sub (fun q hq => by rcases hq with hq | hq; exact Nat.le_trans hb0 hq.1; exact Nat.le_trans hb0 (by omega))) hN rfl hl.1 (Nat.le_of_ble_eq_true rfl) dL_law_1154 ⟨by show cells + 0 + 1 ≤ 601024; omega, by show slots + 0 + 6 ≤ 7293034; omega⟩) (fun H1 L1 hP1 hz1 hk1 hL1 => ?_)
  have hS := S_app hS hz1 hk1 hL1 (fun q hq => by rcases hq with hq | hq; exact Nat.le_trans hb0 hq.1; exact Nat.le_trans hb0 (by omega))
  have hP := lx_w hP hP1 hk1
  refine lv_istore (lv' := [(5, .int ((wr "java/lang/IllegalArgumentException" (h_X6_place X (xs (k + 1))) (X, f)).1)), (0, .ref sc), (1, .ref b), (2, .ref (b + 170)), (3, .ref (b + 178)), (4, .int (nI k))]) hx hb dL_law_1157 hl (by decide) rfl (fun ls hl => ?_)
  refine lv_aload_n hx hb dL_law_1159 rfl (lv_at hl 3 rfl) ?_
  refine lv_aload_n hx hb dL_law_1160 rfl (lv_at hl 1 rfl) ?_
  refine lv_iload hx hb dL_law_1161 (lv_at hl 5 rfl) ?_
  refine lv_iconst (v := 1) hx hb dL_law_1163 (by decide) ?_
  refine iadd_n (a := k) (b := 1) hx hb dL_law_1164 ?_
  refine sld_n (j := k + 1) hx hb hX hsc hS (by omega) hL dL_law_1165 ?_
  refine cl_mi (rV (As := [.int (xs (k + 1))]) (rest := []) ⟨hx, hb, hml, hown, hts⟩ (c_X7_place l G (b + 170) M (xs (k + 1))) (cwV 1 hts gL_law_X7_place rfl rfl rfl (by decide +kernel) ⟨Nat.le_of_ble_eq_true rfl, Nat.le_of_ble_eq_true rfl⟩) (md_recv hO hP.2) hP.2 hO rfl hl.1 (Nat.le_of_ble_eq_true rfl) dL_law_1166 ⟨by show cells + 1 + 0 ≤ 601024; omega, by show slots + 6 + 0 ≤ 7293034; omega⟩) hS (fun q hq => Nat.le_trans hb0 (Nat.le_trans (Nat.le_add_right _ _) hq.1)) (fun H2 locs2 hP2 hz2 hk2 hS => ?_)
  have hP := lx_m hP hP2 hk2
  have hop := E.o_place (f := f) (xs (k + 1)) hR
  refine lv_istore (lv' := [(6, .int ((h_X7_place M (xs (k + 1))).1)), (5, .int ((wr "java/lang/IllegalArgumentException" (h_X6_place X (xs (k + 1))) (X, f)).1)), (0, .ref sc), (1, .ref b), (2, .ref (b + 170)), (3, .ref (b + 178)), (4, .int (nI k))]) hx hb dL_law_1169 hl (by decide) rfl (fun ls hl => ?_)
  refine lv_aload_n hx hb dL_law_1171 rfl (lv_at hl 4 rfl) ?_
  refine cl_pi (rV (As := []) (rest := []) ⟨hx, hb, hml, hown, hts⟩ (c_X7_thrown l G (b + 170) ((h_X7_place M (xs (k + 1))).2)) (cwV 0 hts gL_law_X7_thrown rfl rfl rfl (by decide +kernel) ⟨Nat.le_of_ble_eq_true rfl, Nat.le_of_ble_eq_true rfl⟩) (md_recv hO hP.2) hP.2 hO rfl hl.1 (Nat.le_of_ble_eq_true rfl) dL_law_1172 ⟨by show cells + 1 + 0 ≤ 601024; omega, by show slots + 6 + 0 ≤ 7293034; omega⟩) ?_
  refine lv_iload hx hb dL_law_1175 (lv_at hl 1 rfl) ?_
  refine lv_icmp_eq (tgt := 1182) hx hb dL_law_1177 (by decide) (fun c3 => ?_) (fun c3 => ?_)
  rotate_left
  · exact absurd hop.1 c3
  refine lv_iload hx hb dL_law_1182 (lv_at hl 1 rfl) ?_
  refine lv_if_ne (tgt := 1199) hx hb dL_law_1184 (by decide) (fun c4 => ?_) (fun c4 => ?_)
  · refine lv_goto (tgt := 1806) hx hb dL_law_1199 (by decide) ?_
    exact kk _ _ _ _ _ _ _ hop.2.1 hP hS (lv_sub hl [2, 3, 4, 5, 6] rfl) (by omega) (by omega)
  · refine lv_aload_n hx hb dL_law_1187 rfl (lv_at hl 5 rfl) ?_
    refine lv_iconst (v := 0) hx hb dL_law_1188 (by decide) ?_
    refine va_lald hx hb hO.1 hP.1.2 0 4 rfl rfl (by unfold vp_in; decide) dL_law_1189 ?_
    refine lv_iload hx hb dL_law_1190 (lv_at hl 0 rfl) ?_
    refine lv_i2l (v := ((h_X7_place M (xs (k + 1))).1).toInt64) hx hb dL_law_1192 rfl ?_
    refine W.lcmp hx hb dL_law_1193 ?_
    refine lv_if_eq (tgt := 1199) hx hb dL_law_1194 (by decide) (fun c5 => ?_) (fun c5 => ?_)
    rotate_left
    · exact absurd (by rw [hop.2.2 c4]; exact lg_self _) c5
    refine lv_goto (tgt := 1806) hx hb dL_law_1199 (by decide) ?_
    exact kk _ _ _ _ _ _ _ hop.2.1 hP hS (lv_sub hl [2, 3, 4, 5, 6] rfl) (by omega) (by omega)

set_option maxHeartbeats 4000000 in
set_option maxRecDepth 100000 in
theorem cs_fits {l : Launch} {G : GG} {p : Program} {e : Env} {s : State} {m : MethodId} {below : List Frame} {meth : Method} {cd : Code} {sc L : Nat} {xs : Nat → Int32} (hC : LC l G p s m meth cd sc L xs) {P : Cx → Mo → Prop} (E : L27 P) {b k : Nat} {X : Cx} {f : Nat → Int64} {M : Mo} {H : Heap} {locs : List Loc} {cells slots : Nat} {ls : Array Slot} {Q : State → Prop} (hb0 : s.heap.size ≤ b) (hcs : cells ≤ 3000) (hss : slots ≤ 30000) (hk4 : k + 4 ≤ L) (hP : LX G b (X, f) M H) (hR : P X M) (hS : va_S (frm s.heap.size) s.heap H locs) (hl : lv_has ls 7 [(0, .ref sc), (1, .ref b), (2, .ref (b + 170)), (3, .ref (b + 178)), (4, .int (nI k))])
    (kk : ∀ (S1 : Wx) (M1 : Mo) (H1 : Heap) (locs1 : List Loc) (ls1 : Array Slot) (cells1 slots1 : Nat), P S1.1 M1 → LX G b S1 M1 H1 → va_S (frm s.heap.size) s.heap H1 locs1 → lv_has ls1 7 [(0, .ref sc), (1, .ref b), (2, .ref (b + 170)), (3, .ref (b + 178)), (4, .int (nI k))] → cells1 ≤ cells + 1 → slots1 ≤ slots + 6 → W p l e room_1 s m #[.ref sc] below meth cd H1 locs1 cells1 slots1 Q (F0 m 1806 ls1 [])) : W p l e room_1 s m #[.ref sc] below meth cd H locs cells slots Q (F0 m 1202 ls []) := by
  obtain ⟨hx, hb, hr, hml, hown, hts, hX, hsc, hlocks, hO, hTh, hN, hAO, hst, hL⟩ := hC
  refine lv_aload_n hx hb dL_law_1202 rfl (lv_at hl 1 rfl) ?_
  refine lv_aload_n hx hb dL_law_1203 rfl (lv_at hl 0 rfl) ?_
  refine lv_iload hx hb dL_law_1204 (lv_at hl 4 rfl) ?_
  refine lv_iconst (v := 1) hx hb dL_law_1206 (by decide) ?_
  refine iadd_n (a := k) (b := 1) hx hb dL_law_1207 ?_
  refine sld_n (j := k + 1) hx hb hX hsc hS (by omega) hL dL_law_1208 ?_
  refine lv_aload_n hx hb dL_law_1209 rfl (lv_at hl 0 rfl) ?_
  refine lv_iload hx hb dL_law_1210 (lv_at hl 4 rfl) ?_
  refine lv_iconst (v := 2) hx hb dL_law_1212 (by decide) ?_
  refine iadd_n (a := k) (b := 2) hx hb dL_law_1213 ?_
  refine sld_n (j := k + 2) hx hb hX hsc hS (by omega) hL dL_law_1214 ?_
  refine lv_aload_n hx hb dL_law_1215 rfl (lv_at hl 3 rfl) ?_
  refine cl_mx (xSW (A := wfr b (b + 178)) (As := [.ref b, .int (xs (k + 1)), .int (xs (k + 2)), .ref (b + 178)]) (rest := []) ⟨hx, hb, hml, hown, hts⟩ (c_L_fits l G b (b + 178) (X, f) (xs (k + 1)) (xs (k + 2)) hst (.inr (by omega))) (vx_cwSW 4 hts gL_law_L_fits rfl rfl rfl (by decide +kernel) ⟨Nat.le_of_ble_eq_true rfl, Nat.le_of_ble_eq_true rfl⟩) hP.1 hO (fun U hU hW => (hTh.kept hW (by rw [hU]; exact hS.2.1)).sub (fun q hq => by rcases hq with hq | hq; exact Nat.le_trans hb0 hq.1; exact Nat.le_trans hb0 (by omega))) hN rfl hl.1 (Nat.le_of_ble_eq_true rfl) dL_law_1216 ⟨by show cells + 0 + 1 ≤ 601024; omega, by show slots + 0 + 6 ≤ 7293034; omega⟩) (fun H1 L1 hP1 hz1 hk1 hL1 => ?_)
  have hS := S_app hS hz1 hk1 hL1 (fun q hq => by rcases hq with hq | hq; exact Nat.le_trans hb0 hq.1; exact Nat.le_trans hb0 (by omega))
  have hP := lx_w hP hP1 hk1
  refine lv_istore (lv' := [(5, .int ((wr "java/lang/IllegalArgumentException" (h_X6_fits X (xs (k + 1)) (xs (k + 2))) (X, f)).1)), (0, .ref sc), (1, .ref b), (2, .ref (b + 170)), (3, .ref (b + 178)), (4, .int (nI k))]) hx hb dL_law_1219 hl (by decide) rfl (fun ls hl => ?_)
  refine lv_aload_n hx hb dL_law_1221 rfl (lv_at hl 3 rfl) ?_
  refine lv_aload_n hx hb dL_law_1222 rfl (lv_at hl 1 rfl) ?_
  refine lv_iload hx hb dL_law_1223 (lv_at hl 5 rfl) ?_
  refine lv_iconst (v := 1) hx hb dL_law_1225 (by decide) ?_
  refine iadd_n (a := k) (b := 1) hx hb dL_law_1226 ?_
  refine sld_n (j := k + 1) hx hb hX hsc hS (by omega) hL dL_law_1227 ?_
  refine lv_aload_n hx hb dL_law_1228 rfl (lv_at hl 1 rfl) ?_
  refine lv_iload hx hb dL_law_1229 (lv_at hl 5 rfl) ?_
  refine lv_iconst (v := 2) hx hb dL_law_1231 (by decide) ?_
  refine iadd_n (a := k) (b := 2) hx hb dL_law_1232 ?_
  refine sld_n (j := k + 2) hx hb hX hsc hS (by omega) hL dL_law_1233 ?_
  refine cl_mi (rV (As := [.int (xs (k + 1)), .int (xs (k + 2))]) (rest := []) ⟨hx, hb, hml, hown, hts⟩ (c_X7_fits l G (b + 170) M (xs (k + 1)) (xs (k + 2))) (cwV 2 hts gL_law_X7_fits rfl rfl rfl (by decide +kernel) ⟨Nat.le_of_ble_eq_true rfl, Nat.le_of_ble_eq_true rfl⟩) (md_recv hO hP.2) hP.2 hO rfl hl.1 (Nat.le_of_ble_eq_true rfl) dL_law_1234 ⟨by show cells + 1 + 0 ≤ 601024; omega, by show slots + 6 + 0 ≤ 7293034; omega⟩) hS (fun q hq => Nat.le_trans hb0 (Nat.le_trans (Nat.le_add_right _ _) hq.1)) (fun H2 locs2 hP2 hz2 hk2 hS => ?_)
  have hP := lx_m hP hP2 hk2
  have hop := E.o_fits (f := f) (xs (k + 1)) (xs (k + 2)) hR
  refine lv_istore (lv' := [(6, .int ((h_X7_fits M (xs (k + 1)) (xs (k + 2))).1)), (5, .int ((wr "java/lang/IllegalArgumentException" (h_X6_fits X (xs (k + 1)) (xs (k + 2))) (X, f)).1)), (0, .ref sc), (1, .ref b), (2, .ref (b + 170)), (3, .ref (b + 178)), (4, .int (nI k))]) hx hb dL_law_1237 hl (by decide) rfl (fun ls hl => ?_)
  refine lv_aload_n hx hb dL_law_1239 rfl (lv_at hl 4 rfl) ?_
  refine cl_pi (rV (As := []) (rest := []) ⟨hx, hb, hml, hown, hts⟩ (c_X7_thrown l G (b + 170) ((h_X7_fits M (xs (k + 1)) (xs (k + 2))).2)) (cwV 0 hts gL_law_X7_thrown rfl rfl rfl (by decide +kernel) ⟨Nat.le_of_ble_eq_true rfl, Nat.le_of_ble_eq_true rfl⟩) (md_recv hO hP.2) hP.2 hO rfl hl.1 (Nat.le_of_ble_eq_true rfl) dL_law_1240 ⟨by show cells + 1 + 0 ≤ 601024; omega, by show slots + 6 + 0 ≤ 7293034; omega⟩) ?_
  refine lv_iload hx hb dL_law_1243 (lv_at hl 1 rfl) ?_
  refine lv_icmp_eq (tgt := 1250) hx hb dL_law_1245 (by decide) (fun c3 => ?_) (fun c3 => ?_)
  rotate_left
  · exact absurd hop.1 c3
  refine lv_iload hx hb dL_law_1250 (lv_at hl 1 rfl) ?_
  refine lv_if_ne (tgt := 1267) hx hb dL_law_1252 (by decide) (fun c4 => ?_) (fun c4 => ?_)
  · refine lv_goto (tgt := 1806) hx hb dL_law_1267 (by decide) ?_
    exact kk _ _ _ _ _ _ _ hop.2.1 hP hS (lv_sub hl [2, 3, 4, 5, 6] rfl) (by omega) (by omega)
  · refine lv_aload_n hx hb dL_law_1255 rfl (lv_at hl 5 rfl) ?_
    refine lv_iconst (v := 0) hx hb dL_law_1256 (by decide) ?_
    refine va_lald hx hb hO.1 hP.1.2 0 4 rfl rfl (by unfold vp_in; decide) dL_law_1257 ?_
    refine lv_iload hx hb dL_law_1258 (lv_at hl 0 rfl) ?_
    refine lv_i2l (v := ((h_X7_fits M (xs (k + 1)) (xs (k + 2))).1).toInt64) hx hb dL_law_1260 rfl ?_
    refine W.lcmp hx hb dL_law_1261 ?_
    refine lv_if_eq (tgt := 1267) hx hb dL_law_1262 (by decide) (fun c5 => ?_) (fun c5 => ?_)
    rotate_left
    · exact absurd (by rw [hop.2.2 c4]; exact lg_self _) c5
    refine lv_goto (tgt := 1806) hx hb dL_law_1267 (by decide) ?_
    exact kk _ _ _ _ _ _ _ hop.2.1 hP hS (lv_sub hl [2, 3, 4, 5, 6] rfl) (by omega) (by omega)

set_option maxHeartbeats 4000000 in
set_option maxRecDepth 100000 in
theorem cs_gapIn {l : Launch} {G : GG} {p : Program} {e : Env} {s : State} {m : MethodId} {below : List Frame} {meth : Method} {cd : Code} {sc L : Nat} {xs : Nat → Int32} (hC : LC l G p s m meth cd sc L xs) {P : Cx → Mo → Prop} (E : L27 P) {b k : Nat} {X : Cx} {f : Nat → Int64} {M : Mo} {H : Heap} {locs : List Loc} {cells slots : Nat} {ls : Array Slot} {Q : State → Prop} (hb0 : s.heap.size ≤ b) (hcs : cells ≤ 3000) (hss : slots ≤ 30000) (hk4 : k + 4 ≤ L) (hP : LX G b (X, f) M H) (hR : P X M) (hS : va_S (frm s.heap.size) s.heap H locs) (hl : lv_has ls 7 [(0, .ref sc), (1, .ref b), (2, .ref (b + 170)), (3, .ref (b + 178)), (4, .int (nI k))])
    (kk : ∀ (S1 : Wx) (M1 : Mo) (H1 : Heap) (locs1 : List Loc) (ls1 : Array Slot) (cells1 slots1 : Nat), P S1.1 M1 → LX G b S1 M1 H1 → va_S (frm s.heap.size) s.heap H1 locs1 → lv_has ls1 7 [(0, .ref sc), (1, .ref b), (2, .ref (b + 170)), (3, .ref (b + 178)), (4, .int (nI k))] → cells1 ≤ cells + 1 → slots1 ≤ slots + 6 → W p l e room_1 s m #[.ref sc] below meth cd H1 locs1 cells1 slots1 Q (F0 m 1806 ls1 [])) : W p l e room_1 s m #[.ref sc] below meth cd H locs cells slots Q (F0 m 1270 ls []) := by
  obtain ⟨hx, hb, hr, hml, hown, hts, hX, hsc, hlocks, hO, hTh, hN, hAO, hst, hL⟩ := hC
  refine lv_aload_n hx hb dL_law_1270 rfl (lv_at hl 1 rfl) ?_
  refine lv_aload_n hx hb dL_law_1271 rfl (lv_at hl 0 rfl) ?_
  refine lv_iload hx hb dL_law_1272 (lv_at hl 4 rfl) ?_
  refine lv_iconst (v := 1) hx hb dL_law_1274 (by decide) ?_
  refine iadd_n (a := k) (b := 1) hx hb dL_law_1275 ?_
  refine sld_n (j := k + 1) hx hb hX hsc hS (by omega) hL dL_law_1276 ?_
  refine lv_aload_n hx hb dL_law_1277 rfl (lv_at hl 3 rfl) ?_
  refine cl_mx (xSW (A := wfr b (b + 178)) (As := [.ref b, .int (xs (k + 1)), .ref (b + 178)]) (rest := []) ⟨hx, hb, hml, hown, hts⟩ (c_L_gapIn l G b (b + 178) (X, f) (xs (k + 1)) hst (.inr (by omega))) (vx_cwSW 3 hts gL_law_L_gapIn rfl rfl rfl (by decide +kernel) ⟨Nat.le_of_ble_eq_true rfl, Nat.le_of_ble_eq_true rfl⟩) hP.1 hO (fun U hU hW => (hTh.kept hW (by rw [hU]; exact hS.2.1)).sub (fun q hq => by rcases hq with hq | hq; exact Nat.le_trans hb0 hq.1; exact Nat.le_trans hb0 (by omega))) hN rfl hl.1 (Nat.le_of_ble_eq_true rfl) dL_law_1278 ⟨by show cells + 0 + 1 ≤ 601024; omega, by show slots + 0 + 6 ≤ 7293034; omega⟩) (fun H1 L1 hP1 hz1 hk1 hL1 => ?_)
  have hS := S_app hS hz1 hk1 hL1 (fun q hq => by rcases hq with hq | hq; exact Nat.le_trans hb0 hq.1; exact Nat.le_trans hb0 (by omega))
  have hP := lx_w hP hP1 hk1
  refine lv_istore (lv' := [(5, .int ((wr "java/lang/IllegalArgumentException" (h_X6_gapIn X (xs (k + 1))) (X, f)).1)), (0, .ref sc), (1, .ref b), (2, .ref (b + 170)), (3, .ref (b + 178)), (4, .int (nI k))]) hx hb dL_law_1281 hl (by decide) rfl (fun ls hl => ?_)
  refine lv_aload_n hx hb dL_law_1283 rfl (lv_at hl 3 rfl) ?_
  refine lv_aload_n hx hb dL_law_1284 rfl (lv_at hl 1 rfl) ?_
  refine lv_iload hx hb dL_law_1285 (lv_at hl 5 rfl) ?_
  refine lv_iconst (v := 1) hx hb dL_law_1287 (by decide) ?_
  refine iadd_n (a := k) (b := 1) hx hb dL_law_1288 ?_
  refine sld_n (j := k + 1) hx hb hX hsc hS (by omega) hL dL_law_1289 ?_
  refine cl_mi (rV (As := [.int (xs (k + 1))]) (rest := []) ⟨hx, hb, hml, hown, hts⟩ (c_X7_gapIn l G (b + 170) M (xs (k + 1)) (E.ri hR)) (cwV 1 hts gL_law_X7_gapIn rfl rfl rfl (by decide +kernel) ⟨Nat.le_of_ble_eq_true rfl, Nat.le_of_ble_eq_true rfl⟩) (md_recv hO hP.2) hP.2 hO rfl hl.1 (Nat.le_of_ble_eq_true rfl) dL_law_1290 ⟨by show cells + 1 + 0 ≤ 601024; omega, by show slots + 6 + 0 ≤ 7293034; omega⟩) hS (fun q hq => Nat.le_trans hb0 (Nat.le_trans (Nat.le_add_right _ _) hq.1)) (fun H2 locs2 hP2 hz2 hk2 hS => ?_)
  have hP := lx_m hP hP2 hk2
  have hop := E.o_gapIn (f := f) (xs (k + 1)) hR
  refine lv_istore (lv' := [(6, .int ((h_X7_gapIn M (xs (k + 1))).1)), (5, .int ((wr "java/lang/IllegalArgumentException" (h_X6_gapIn X (xs (k + 1))) (X, f)).1)), (0, .ref sc), (1, .ref b), (2, .ref (b + 170)), (3, .ref (b + 178)), (4, .int (nI k))]) hx hb dL_law_1293 hl (by decide) rfl (fun ls hl => ?_)
  refine lv_aload_n hx hb dL_law_1295 rfl (lv_at hl 4 rfl) ?_
  refine cl_pi (rV (As := []) (rest := []) ⟨hx, hb, hml, hown, hts⟩ (c_X7_thrown l G (b + 170) ((h_X7_gapIn M (xs (k + 1))).2)) (cwV 0 hts gL_law_X7_thrown rfl rfl rfl (by decide +kernel) ⟨Nat.le_of_ble_eq_true rfl, Nat.le_of_ble_eq_true rfl⟩) (md_recv hO hP.2) hP.2 hO rfl hl.1 (Nat.le_of_ble_eq_true rfl) dL_law_1296 ⟨by show cells + 1 + 0 ≤ 601024; omega, by show slots + 6 + 0 ≤ 7293034; omega⟩) ?_
  refine lv_iload hx hb dL_law_1299 (lv_at hl 1 rfl) ?_
  refine lv_icmp_eq (tgt := 1306) hx hb dL_law_1301 (by decide) (fun c3 => ?_) (fun c3 => ?_)
  rotate_left
  · exact absurd hop.1 c3
  refine lv_iload hx hb dL_law_1306 (lv_at hl 1 rfl) ?_
  refine lv_if_ne (tgt := 1323) hx hb dL_law_1308 (by decide) (fun c4 => ?_) (fun c4 => ?_)
  · refine lv_goto (tgt := 1806) hx hb dL_law_1323 (by decide) ?_
    exact kk _ _ _ _ _ _ _ hop.2.1 hP hS (lv_sub hl [2, 3, 4, 5, 6] rfl) (by omega) (by omega)
  · refine lv_aload_n hx hb dL_law_1311 rfl (lv_at hl 5 rfl) ?_
    refine lv_iconst (v := 0) hx hb dL_law_1312 (by decide) ?_
    refine va_lald hx hb hO.1 hP.1.2 0 4 rfl rfl (by unfold vp_in; decide) dL_law_1313 ?_
    refine lv_iload hx hb dL_law_1314 (lv_at hl 0 rfl) ?_
    refine lv_i2l (v := ((h_X7_gapIn M (xs (k + 1))).1).toInt64) hx hb dL_law_1316 rfl ?_
    refine W.lcmp hx hb dL_law_1317 ?_
    refine lv_if_eq (tgt := 1323) hx hb dL_law_1318 (by decide) (fun c5 => ?_) (fun c5 => ?_)
    rotate_left
    · exact absurd (by rw [hop.2.2 c4]; exact lg_self _) c5
    refine lv_goto (tgt := 1806) hx hb dL_law_1323 (by decide) ?_
    exact kk _ _ _ _ _ _ _ hop.2.1 hP hS (lv_sub hl [2, 3, 4, 5, 6] rfl) (by omega) (by omega)

set_option maxHeartbeats 4000000 in
set_option maxRecDepth 100000 in
theorem cs_mover {l : Launch} {G : GG} {p : Program} {e : Env} {s : State} {m : MethodId} {below : List Frame} {meth : Method} {cd : Code} {sc L : Nat} {xs : Nat → Int32} (hC : LC l G p s m meth cd sc L xs) {P : Cx → Mo → Prop} (E : L27 P) {b k : Nat} {X : Cx} {f : Nat → Int64} {M : Mo} {H : Heap} {locs : List Loc} {cells slots : Nat} {ls : Array Slot} {Q : State → Prop} (hb0 : s.heap.size ≤ b) (hcs : cells ≤ 3000) (hss : slots ≤ 30000) (hk4 : k + 4 ≤ L) (hP : LX G b (X, f) M H) (hR : P X M) (hS : va_S (frm s.heap.size) s.heap H locs) (hl : lv_has ls 7 [(0, .ref sc), (1, .ref b), (2, .ref (b + 170)), (3, .ref (b + 178)), (4, .int (nI k))])
    (kk : ∀ (S1 : Wx) (M1 : Mo) (H1 : Heap) (locs1 : List Loc) (ls1 : Array Slot) (cells1 slots1 : Nat), P S1.1 M1 → LX G b S1 M1 H1 → va_S (frm s.heap.size) s.heap H1 locs1 → lv_has ls1 7 [(0, .ref sc), (1, .ref b), (2, .ref (b + 170)), (3, .ref (b + 178)), (4, .int (nI k))] → cells1 ≤ cells + 1 → slots1 ≤ slots + 6 → W p l e room_1 s m #[.ref sc] below meth cd H1 locs1 cells1 slots1 Q (F0 m 1806 ls1 [])) : W p l e room_1 s m #[.ref sc] below meth cd H locs cells slots Q (F0 m 1326 ls []) := by
  obtain ⟨hx, hb, hr, hml, hown, hts, hX, hsc, hlocks, hO, hTh, hN, hAO, hst, hL⟩ := hC
  refine lv_aload_n hx hb dL_law_1326 rfl (lv_at hl 1 rfl) ?_
  refine lv_aload_n hx hb dL_law_1327 rfl (lv_at hl 0 rfl) ?_
  refine lv_iload hx hb dL_law_1328 (lv_at hl 4 rfl) ?_
  refine lv_iconst (v := 1) hx hb dL_law_1330 (by decide) ?_
  refine iadd_n (a := k) (b := 1) hx hb dL_law_1331 ?_
  refine sld_n (j := k + 1) hx hb hX hsc hS (by omega) hL dL_law_1332 ?_
  refine lv_aload_n hx hb dL_law_1333 rfl (lv_at hl 0 rfl) ?_
  refine lv_iload hx hb dL_law_1334 (lv_at hl 4 rfl) ?_
  refine lv_iconst (v := 2) hx hb dL_law_1336 (by decide) ?_
  refine iadd_n (a := k) (b := 2) hx hb dL_law_1337 ?_
  refine sld_n (j := k + 2) hx hb hX hsc hS (by omega) hL dL_law_1338 ?_
  refine lv_aload_n hx hb dL_law_1339 rfl (lv_at hl 3 rfl) ?_
  refine cl_mx (xSW (A := wfr b (b + 178)) (As := [.ref b, .int (xs (k + 1)), .int (xs (k + 2)), .ref (b + 178)]) (rest := []) ⟨hx, hb, hml, hown, hts⟩ (c_L_mover l G b (b + 178) (X, f) (xs (k + 1)) (xs (k + 2)) hst (.inr (by omega))) (vx_cwSW 4 hts gL_law_L_mover rfl rfl rfl (by decide +kernel) ⟨Nat.le_of_ble_eq_true rfl, Nat.le_of_ble_eq_true rfl⟩) hP.1 hO (fun U hU hW => (hTh.kept hW (by rw [hU]; exact hS.2.1)).sub (fun q hq => by rcases hq with hq | hq; exact Nat.le_trans hb0 hq.1; exact Nat.le_trans hb0 (by omega))) hN rfl hl.1 (Nat.le_of_ble_eq_true rfl) dL_law_1340 ⟨by show cells + 0 + 1 ≤ 601024; omega, by show slots + 0 + 6 ≤ 7293034; omega⟩) (fun H1 L1 hP1 hz1 hk1 hL1 => ?_)
  have hS := S_app hS hz1 hk1 hL1 (fun q hq => by rcases hq with hq | hq; exact Nat.le_trans hb0 hq.1; exact Nat.le_trans hb0 (by omega))
  have hP := lx_w hP hP1 hk1
  refine lv_istore (lv' := [(5, .int ((wr "java/lang/IllegalArgumentException" (h_X6_mover X (xs (k + 1)) (xs (k + 2))) (X, f)).1)), (0, .ref sc), (1, .ref b), (2, .ref (b + 170)), (3, .ref (b + 178)), (4, .int (nI k))]) hx hb dL_law_1343 hl (by decide) rfl (fun ls hl => ?_)
  refine lv_aload_n hx hb dL_law_1345 rfl (lv_at hl 3 rfl) ?_
  refine lv_aload_n hx hb dL_law_1346 rfl (lv_at hl 1 rfl) ?_
  refine lv_iload hx hb dL_law_1347 (lv_at hl 5 rfl) ?_
  refine lv_iconst (v := 1) hx hb dL_law_1349 (by decide) ?_
  refine iadd_n (a := k) (b := 1) hx hb dL_law_1350 ?_
  refine sld_n (j := k + 1) hx hb hX hsc hS (by omega) hL dL_law_1351 ?_
  refine lv_aload_n hx hb dL_law_1352 rfl (lv_at hl 1 rfl) ?_
  refine lv_iload hx hb dL_law_1353 (lv_at hl 5 rfl) ?_
  refine lv_iconst (v := 2) hx hb dL_law_1355 (by decide) ?_
  refine iadd_n (a := k) (b := 2) hx hb dL_law_1356 ?_
  refine sld_n (j := k + 2) hx hb hX hsc hS (by omega) hL dL_law_1357 ?_
  refine cl_mi (rV (As := [.int (xs (k + 1)), .int (xs (k + 2))]) (rest := []) ⟨hx, hb, hml, hown, hts⟩ (c_X7_mover l G (b + 170) M (xs (k + 1)) (xs (k + 2)) (E.ri hR)) (cwV 2 hts gL_law_X7_mover rfl rfl rfl (by decide +kernel) ⟨Nat.le_of_ble_eq_true rfl, Nat.le_of_ble_eq_true rfl⟩) (md_recv hO hP.2) hP.2 hO rfl hl.1 (Nat.le_of_ble_eq_true rfl) dL_law_1358 ⟨by show cells + 1 + 0 ≤ 601024; omega, by show slots + 6 + 0 ≤ 7293034; omega⟩) hS (fun q hq => Nat.le_trans hb0 (Nat.le_trans (Nat.le_add_right _ _) hq.1)) (fun H2 locs2 hP2 hz2 hk2 hS => ?_)
  have hP := lx_m hP hP2 hk2
  have hop := E.o_mover (f := f) (xs (k + 1)) (xs (k + 2)) hR
  refine lv_istore (lv' := [(6, .int ((h_X7_mover M (xs (k + 1)) (xs (k + 2))).1)), (5, .int ((wr "java/lang/IllegalArgumentException" (h_X6_mover X (xs (k + 1)) (xs (k + 2))) (X, f)).1)), (0, .ref sc), (1, .ref b), (2, .ref (b + 170)), (3, .ref (b + 178)), (4, .int (nI k))]) hx hb dL_law_1361 hl (by decide) rfl (fun ls hl => ?_)
  refine lv_aload_n hx hb dL_law_1363 rfl (lv_at hl 4 rfl) ?_
  refine cl_pi (rV (As := []) (rest := []) ⟨hx, hb, hml, hown, hts⟩ (c_X7_thrown l G (b + 170) ((h_X7_mover M (xs (k + 1)) (xs (k + 2))).2)) (cwV 0 hts gL_law_X7_thrown rfl rfl rfl (by decide +kernel) ⟨Nat.le_of_ble_eq_true rfl, Nat.le_of_ble_eq_true rfl⟩) (md_recv hO hP.2) hP.2 hO rfl hl.1 (Nat.le_of_ble_eq_true rfl) dL_law_1364 ⟨by show cells + 1 + 0 ≤ 601024; omega, by show slots + 6 + 0 ≤ 7293034; omega⟩) ?_
  refine lv_iload hx hb dL_law_1367 (lv_at hl 1 rfl) ?_
  refine lv_icmp_eq (tgt := 1374) hx hb dL_law_1369 (by decide) (fun c3 => ?_) (fun c3 => ?_)
  rotate_left
  · exact absurd hop.1 c3
  refine lv_iload hx hb dL_law_1374 (lv_at hl 1 rfl) ?_
  refine lv_if_ne (tgt := 1391) hx hb dL_law_1376 (by decide) (fun c4 => ?_) (fun c4 => ?_)
  · refine lv_goto (tgt := 1806) hx hb dL_law_1391 (by decide) ?_
    exact kk _ _ _ _ _ _ _ hop.2.1 hP hS (lv_sub hl [2, 3, 4, 5, 6] rfl) (by omega) (by omega)
  · refine lv_aload_n hx hb dL_law_1379 rfl (lv_at hl 5 rfl) ?_
    refine lv_iconst (v := 0) hx hb dL_law_1380 (by decide) ?_
    refine va_lald hx hb hO.1 hP.1.2 0 4 rfl rfl (by unfold vp_in; decide) dL_law_1381 ?_
    refine lv_iload hx hb dL_law_1382 (lv_at hl 0 rfl) ?_
    refine lv_i2l (v := ((h_X7_mover M (xs (k + 1)) (xs (k + 2))).1).toInt64) hx hb dL_law_1384 rfl ?_
    refine W.lcmp hx hb dL_law_1385 ?_
    refine lv_if_eq (tgt := 1391) hx hb dL_law_1386 (by decide) (fun c5 => ?_) (fun c5 => ?_)
    rotate_left
    · exact absurd (by rw [hop.2.2 c4]; exact lg_self _) c5
    refine lv_goto (tgt := 1806) hx hb dL_law_1391 (by decide) ?_
    exact kk _ _ _ _ _ _ _ hop.2.1 hP hS (lv_sub hl [2, 3, 4, 5, 6] rfl) (by omega) (by omega)

set_option maxHeartbeats 4000000 in
set_option maxRecDepth 100000 in
theorem cs_jam {l : Launch} {G : GG} {p : Program} {e : Env} {s : State} {m : MethodId} {below : List Frame} {meth : Method} {cd : Code} {sc L : Nat} {xs : Nat → Int32} (hC : LC l G p s m meth cd sc L xs) {P : Cx → Mo → Prop} (E : L27 P) {b k : Nat} {X : Cx} {f : Nat → Int64} {M : Mo} {H : Heap} {locs : List Loc} {cells slots : Nat} {ls : Array Slot} {Q : State → Prop} (hb0 : s.heap.size ≤ b) (hcs : cells ≤ 3000) (hss : slots ≤ 30000) (hk4 : k + 4 ≤ L) (hP : LX G b (X, f) M H) (hR : P X M) (hS : va_S (frm s.heap.size) s.heap H locs) (hl : lv_has ls 7 [(0, .ref sc), (1, .ref b), (2, .ref (b + 170)), (3, .ref (b + 178)), (4, .int (nI k))])
    (kk : ∀ (S1 : Wx) (M1 : Mo) (H1 : Heap) (locs1 : List Loc) (ls1 : Array Slot) (cells1 slots1 : Nat), P S1.1 M1 → LX G b S1 M1 H1 → va_S (frm s.heap.size) s.heap H1 locs1 → lv_has ls1 7 [(0, .ref sc), (1, .ref b), (2, .ref (b + 170)), (3, .ref (b + 178)), (4, .int (nI k))] → cells1 ≤ cells + 1 → slots1 ≤ slots + 6 → W p l e room_1 s m #[.ref sc] below meth cd H1 locs1 cells1 slots1 Q (F0 m 1806 ls1 [])) : W p l e room_1 s m #[.ref sc] below meth cd H locs cells slots Q (F0 m 1394 ls []) := by
  obtain ⟨hx, hb, hr, hml, hown, hts, hX, hsc, hlocks, hO, hTh, hN, hAO, hst, hL⟩ := hC
  refine lv_aload_n hx hb dL_law_1394 rfl (lv_at hl 1 rfl) ?_
  refine lv_aload_n hx hb dL_law_1395 rfl (lv_at hl 0 rfl) ?_
  refine lv_iload hx hb dL_law_1396 (lv_at hl 4 rfl) ?_
  refine lv_iconst (v := 1) hx hb dL_law_1398 (by decide) ?_
  refine iadd_n (a := k) (b := 1) hx hb dL_law_1399 ?_
  refine sld_n (j := k + 1) hx hb hX hsc hS (by omega) hL dL_law_1400 ?_
  refine lv_aload_n hx hb dL_law_1401 rfl (lv_at hl 0 rfl) ?_
  refine lv_iload hx hb dL_law_1402 (lv_at hl 4 rfl) ?_
  refine lv_iconst (v := 2) hx hb dL_law_1404 (by decide) ?_
  refine iadd_n (a := k) (b := 2) hx hb dL_law_1405 ?_
  refine sld_n (j := k + 2) hx hb hX hsc hS (by omega) hL dL_law_1406 ?_
  refine lv_i2l (v := (xs (k + 2)).toInt64) hx hb dL_law_1407 rfl ?_
  refine lv_bipush (v := 32) hx hb dL_law_1408 (by decide) ?_
  refine lv_lshl (v := jShl (xs (k + 2)).toInt64 32) hx hb dL_law_1410 rfl ?_
  refine lv_aload_n hx hb dL_law_1411 rfl (lv_at hl 0 rfl) ?_
  refine lv_iload hx hb dL_law_1412 (lv_at hl 4 rfl) ?_
  refine lv_iconst (v := 3) hx hb dL_law_1414 (by decide) ?_
  refine iadd_n (a := k) (b := 3) hx hb dL_law_1415 ?_
  refine sld_n (j := k + 3) hx hb hX hsc hS (by omega) hL dL_law_1416 ?_
  refine lv_i2l (v := (xs (k + 3)).toInt64) hx hb dL_law_1417 rfl ?_
  refine lv_ldc2 (v := 4294967295) hx hb hown (hts (.constantLong RL 177 (4294967295)) (by decide +kernel)) dL_law_1418 ?_
  refine lv_land hx hb dL_law_1421 ?_
  refine lv_lor hx hb dL_law_1422 ?_
  refine lv_aload_n hx hb dL_law_1423 rfl (lv_at hl 3 rfl) ?_
  refine cl_mx (xSW (A := wfr b (b + 178)) (As := [.ref b, .int (xs (k + 1)), .long ((jShl (xs (k + 2)).toInt64 32) ||| ((xs (k + 3)).toInt64 &&& 4294967295)), .ref (b + 178)]) (rest := []) ⟨hx, hb, hml, hown, hts⟩ (c_L_jam l G b (b + 178) (X, f) (xs (k + 1)) (((jShl (xs (k + 2)).toInt64 32) ||| ((xs (k + 3)).toInt64 &&& 4294967295))) hst (.inr (by omega))) (vx_cwSW 4 hts gL_law_L_jam rfl rfl rfl (by decide +kernel) ⟨Nat.le_of_ble_eq_true rfl, Nat.le_of_ble_eq_true rfl⟩) hP.1 hO (fun U hU hW => (hTh.kept hW (by rw [hU]; exact hS.2.1)).sub (fun q hq => by rcases hq with hq | hq; exact Nat.le_trans hb0 hq.1; exact Nat.le_trans hb0 (by omega))) hN rfl hl.1 (Nat.le_of_ble_eq_true rfl) dL_law_1424 ⟨by show cells + 0 + 1 ≤ 601024; omega, by show slots + 0 + 6 ≤ 7293034; omega⟩) (fun H1 L1 hP1 hz1 hk1 hL1 => ?_)
  have hS := S_app hS hz1 hk1 hL1 (fun q hq => by rcases hq with hq | hq; exact Nat.le_trans hb0 hq.1; exact Nat.le_trans hb0 (by omega))
  have hP := lx_w hP hP1 hk1
  refine lv_istore (lv' := [(5, .int ((wr "java/lang/IllegalArgumentException" (h_X6_jam X (xs (k + 1)) (((jShl (xs (k + 2)).toInt64 32) ||| ((xs (k + 3)).toInt64 &&& 4294967295)))) (X, f)).1)), (0, .ref sc), (1, .ref b), (2, .ref (b + 170)), (3, .ref (b + 178)), (4, .int (nI k))]) hx hb dL_law_1427 hl (by decide) rfl (fun ls hl => ?_)
  refine lv_aload_n hx hb dL_law_1429 rfl (lv_at hl 3 rfl) ?_
  refine lv_aload_n hx hb dL_law_1430 rfl (lv_at hl 1 rfl) ?_
  refine lv_iload hx hb dL_law_1431 (lv_at hl 5 rfl) ?_
  refine lv_iconst (v := 1) hx hb dL_law_1433 (by decide) ?_
  refine iadd_n (a := k) (b := 1) hx hb dL_law_1434 ?_
  refine sld_n (j := k + 1) hx hb hX hsc hS (by omega) hL dL_law_1435 ?_
  refine lv_aload_n hx hb dL_law_1436 rfl (lv_at hl 1 rfl) ?_
  refine lv_iload hx hb dL_law_1437 (lv_at hl 5 rfl) ?_
  refine lv_iconst (v := 2) hx hb dL_law_1439 (by decide) ?_
  refine iadd_n (a := k) (b := 2) hx hb dL_law_1440 ?_
  refine sld_n (j := k + 2) hx hb hX hsc hS (by omega) hL dL_law_1441 ?_
  refine lv_i2l (v := (xs (k + 2)).toInt64) hx hb dL_law_1442 rfl ?_
  refine lv_bipush (v := 32) hx hb dL_law_1443 (by decide) ?_
  refine lv_lshl (v := jShl (xs (k + 2)).toInt64 32) hx hb dL_law_1445 rfl ?_
  refine lv_aload_n hx hb dL_law_1446 rfl (lv_at hl 1 rfl) ?_
  refine lv_iload hx hb dL_law_1447 (lv_at hl 5 rfl) ?_
  refine lv_iconst (v := 3) hx hb dL_law_1449 (by decide) ?_
  refine iadd_n (a := k) (b := 3) hx hb dL_law_1450 ?_
  refine sld_n (j := k + 3) hx hb hX hsc hS (by omega) hL dL_law_1451 ?_
  refine lv_i2l (v := (xs (k + 3)).toInt64) hx hb dL_law_1452 rfl ?_
  refine lv_ldc2 (v := 4294967295) hx hb hown (hts (.constantLong RL 177 (4294967295)) (by decide +kernel)) dL_law_1453 ?_
  refine lv_land hx hb dL_law_1456 ?_
  refine lv_lor hx hb dL_law_1457 ?_
  refine cl_mi (rV (As := [.int (xs (k + 1)), .long ((jShl (xs (k + 2)).toInt64 32) ||| ((xs (k + 3)).toInt64 &&& 4294967295))]) (rest := []) ⟨hx, hb, hml, hown, hts⟩ (c_X7_jam l G (b + 170) M (xs (k + 1)) (((jShl (xs (k + 2)).toInt64 32) ||| ((xs (k + 3)).toInt64 &&& 4294967295))) (E.ri hR)) (cwV 2 hts gL_law_X7_jam rfl rfl rfl (by decide +kernel) ⟨Nat.le_of_ble_eq_true rfl, Nat.le_of_ble_eq_true rfl⟩) (md_recv hO hP.2) hP.2 hO rfl hl.1 (Nat.le_of_ble_eq_true rfl) dL_law_1458 ⟨by show cells + 1 + 0 ≤ 601024; omega, by show slots + 6 + 0 ≤ 7293034; omega⟩) hS (fun q hq => Nat.le_trans hb0 (Nat.le_trans (Nat.le_add_right _ _) hq.1)) (fun H2 locs2 hP2 hz2 hk2 hS => ?_)
  have hP := lx_m hP hP2 hk2
  have hop := E.o_jam (f := f) (xs (k + 1)) (((jShl (xs (k + 2)).toInt64 32) ||| ((xs (k + 3)).toInt64 &&& 4294967295))) hR
  refine lv_istore (lv' := [(6, .int ((h_X7_jam M (xs (k + 1)) (((jShl (xs (k + 2)).toInt64 32) ||| ((xs (k + 3)).toInt64 &&& 4294967295)))).1)), (5, .int ((wr "java/lang/IllegalArgumentException" (h_X6_jam X (xs (k + 1)) (((jShl (xs (k + 2)).toInt64 32) ||| ((xs (k + 3)).toInt64 &&& 4294967295)))) (X, f)).1)), (0, .ref sc), (1, .ref b), (2, .ref (b + 170)), (3, .ref (b + 178)), (4, .int (nI k))]) hx hb dL_law_1461 hl (by decide) rfl (fun ls hl => ?_)
  refine lv_aload_n hx hb dL_law_1463 rfl (lv_at hl 4 rfl) ?_
  refine cl_pi (rV (As := []) (rest := []) ⟨hx, hb, hml, hown, hts⟩ (c_X7_thrown l G (b + 170) ((h_X7_jam M (xs (k + 1)) (((jShl (xs (k + 2)).toInt64 32) ||| ((xs (k + 3)).toInt64 &&& 4294967295)))).2)) (cwV 0 hts gL_law_X7_thrown rfl rfl rfl (by decide +kernel) ⟨Nat.le_of_ble_eq_true rfl, Nat.le_of_ble_eq_true rfl⟩) (md_recv hO hP.2) hP.2 hO rfl hl.1 (Nat.le_of_ble_eq_true rfl) dL_law_1464 ⟨by show cells + 1 + 0 ≤ 601024; omega, by show slots + 6 + 0 ≤ 7293034; omega⟩) ?_
  refine lv_iload hx hb dL_law_1467 (lv_at hl 1 rfl) ?_
  refine lv_icmp_eq (tgt := 1474) hx hb dL_law_1469 (by decide) (fun c3 => ?_) (fun c3 => ?_)
  rotate_left
  · exact absurd hop.1 c3
  refine lv_iload hx hb dL_law_1474 (lv_at hl 1 rfl) ?_
  refine lv_if_ne (tgt := 1491) hx hb dL_law_1476 (by decide) (fun c4 => ?_) (fun c4 => ?_)
  · refine lv_goto (tgt := 1806) hx hb dL_law_1491 (by decide) ?_
    exact kk _ _ _ _ _ _ _ hop.2.1 hP hS (lv_sub hl [2, 3, 4, 5, 6] rfl) (by omega) (by omega)
  · refine lv_aload_n hx hb dL_law_1479 rfl (lv_at hl 5 rfl) ?_
    refine lv_iconst (v := 0) hx hb dL_law_1480 (by decide) ?_
    refine va_lald hx hb hO.1 hP.1.2 0 4 rfl rfl (by unfold vp_in; decide) dL_law_1481 ?_
    refine lv_iload hx hb dL_law_1482 (lv_at hl 0 rfl) ?_
    refine lv_i2l (v := ((h_X7_jam M (xs (k + 1)) (((jShl (xs (k + 2)).toInt64 32) ||| ((xs (k + 3)).toInt64 &&& 4294967295)))).1).toInt64) hx hb dL_law_1484 rfl ?_
    refine W.lcmp hx hb dL_law_1485 ?_
    refine lv_if_eq (tgt := 1491) hx hb dL_law_1486 (by decide) (fun c5 => ?_) (fun c5 => ?_)
    rotate_left
    · exact absurd (by rw [hop.2.2 c4]; exact lg_self _) c5
    refine lv_goto (tgt := 1806) hx hb dL_law_1491 (by decide) ?_
    exact kk _ _ _ _ _ _ _ hop.2.1 hP hS (lv_sub hl [2, 3, 4, 5, 6] rfl) (by omega) (by omega)

set_option maxHeartbeats 4000000 in
set_option maxRecDepth 100000 in
theorem cs_runScript {l : Launch} {G : GG} {p : Program} {e : Env} {s : State} {m : MethodId} {below : List Frame} {meth : Method} {cd : Code} {sc L : Nat} {xs : Nat → Int32} (hC : LC l G p s m meth cd sc L xs) {P : Cx → Mo → Prop} (E : L27 P) {b k : Nat} {X : Cx} {f : Nat → Int64} {M : Mo} {H : Heap} {locs : List Loc} {cells slots : Nat} {ls : Array Slot} {Q : State → Prop} (hb0 : s.heap.size ≤ b) (hcs : cells ≤ 3000) (hss : slots ≤ 30000) (hk4 : k + 4 ≤ L) (hP : LX G b (X, f) M H) (hR : P X M) (hS : va_S (frm s.heap.size) s.heap H locs) (hl : lv_has ls 7 [(0, .ref sc), (1, .ref b), (2, .ref (b + 170)), (3, .ref (b + 178)), (4, .int (nI k))])
    (kk : ∀ (S1 : Wx) (M1 : Mo) (H1 : Heap) (locs1 : List Loc) (ls1 : Array Slot) (cells1 slots1 : Nat), P S1.1 M1 → LX G b S1 M1 H1 → va_S (frm s.heap.size) s.heap H1 locs1 → lv_has ls1 7 [(0, .ref sc), (1, .ref b), (2, .ref (b + 170)), (3, .ref (b + 178)), (4, .int (nI k))] → cells1 ≤ cells + 1 → slots1 ≤ slots + 6 → W p l e room_1 s m #[.ref sc] below meth cd H1 locs1 cells1 slots1 Q (F0 m 1806 ls1 [])) : W p l e room_1 s m #[.ref sc] below meth cd H locs cells slots Q (F0 m 1494 ls []) := by
  obtain ⟨hx, hb, hr, hml, hown, hts, hX, hsc, hlocks, hO, hTh, hN, hAO, hst, hL⟩ := hC
  refine lv_aload_n hx hb dL_law_1494 rfl (lv_at hl 1 rfl) ?_
  refine lv_aload_n hx hb dL_law_1495 rfl (lv_at hl 0 rfl) ?_
  refine lv_iload hx hb dL_law_1496 (lv_at hl 4 rfl) ?_
  refine lv_iconst (v := 1) hx hb dL_law_1498 (by decide) ?_
  refine iadd_n (a := k) (b := 1) hx hb dL_law_1499 ?_
  refine sld_n (j := k + 1) hx hb hX hsc hS (by omega) hL dL_law_1500 ?_
  refine lv_aload_n hx hb dL_law_1501 rfl (lv_at hl 0 rfl) ?_
  refine lv_iload hx hb dL_law_1502 (lv_at hl 4 rfl) ?_
  refine lv_iconst (v := 2) hx hb dL_law_1504 (by decide) ?_
  refine iadd_n (a := k) (b := 2) hx hb dL_law_1505 ?_
  refine sld_n (j := k + 2) hx hb hX hsc hS (by omega) hL dL_law_1506 ?_
  refine lv_i2l (v := (xs (k + 2)).toInt64) hx hb dL_law_1507 rfl ?_
  refine lv_bipush (v := 32) hx hb dL_law_1508 (by decide) ?_
  refine lv_lshl (v := jShl (xs (k + 2)).toInt64 32) hx hb dL_law_1510 rfl ?_
  refine lv_aload_n hx hb dL_law_1511 rfl (lv_at hl 0 rfl) ?_
  refine lv_iload hx hb dL_law_1512 (lv_at hl 4 rfl) ?_
  refine lv_iconst (v := 3) hx hb dL_law_1514 (by decide) ?_
  refine iadd_n (a := k) (b := 3) hx hb dL_law_1515 ?_
  refine sld_n (j := k + 3) hx hb hX hsc hS (by omega) hL dL_law_1516 ?_
  refine lv_i2l (v := (xs (k + 3)).toInt64) hx hb dL_law_1517 rfl ?_
  refine lv_ldc2 (v := 4294967295) hx hb hown (hts (.constantLong RL 177 (4294967295)) (by decide +kernel)) dL_law_1518 ?_
  refine lv_land hx hb dL_law_1521 ?_
  refine lv_lor hx hb dL_law_1522 ?_
  refine lv_aload_n hx hb dL_law_1523 rfl (lv_at hl 3 rfl) ?_
  refine cl_mx (xSW (A := wfr b (b + 178)) (As := [.ref b, .int (xs (k + 1)), .long ((jShl (xs (k + 2)).toInt64 32) ||| ((xs (k + 3)).toInt64 &&& 4294967295)), .ref (b + 178)]) (rest := []) ⟨hx, hb, hml, hown, hts⟩ (c_L_runScript l G b (b + 178) (X, f) (xs (k + 1)) (((jShl (xs (k + 2)).toInt64 32) ||| ((xs (k + 3)).toInt64 &&& 4294967295))) hst (.inr (by omega))) (vx_cwSW 4 hts gL_law_L_runScript rfl rfl rfl (by decide +kernel) ⟨Nat.le_of_ble_eq_true rfl, Nat.le_of_ble_eq_true rfl⟩) hP.1 hO (fun U hU hW => (hTh.kept hW (by rw [hU]; exact hS.2.1)).sub (fun q hq => by rcases hq with hq | hq; exact Nat.le_trans hb0 hq.1; exact Nat.le_trans hb0 (by omega))) hN rfl hl.1 (Nat.le_of_ble_eq_true rfl) dL_law_1524 ⟨by show cells + 0 + 1 ≤ 601024; omega, by show slots + 0 + 6 ≤ 7293034; omega⟩) (fun H1 L1 hP1 hz1 hk1 hL1 => ?_)
  have hS := S_app hS hz1 hk1 hL1 (fun q hq => by rcases hq with hq | hq; exact Nat.le_trans hb0 hq.1; exact Nat.le_trans hb0 (by omega))
  have hP := lx_w hP hP1 hk1
  refine lv_istore (lv' := [(5, .int ((wr "java/lang/IllegalArgumentException" (h_X6_runScript X (xs (k + 1)) (((jShl (xs (k + 2)).toInt64 32) ||| ((xs (k + 3)).toInt64 &&& 4294967295)))) (X, f)).1)), (0, .ref sc), (1, .ref b), (2, .ref (b + 170)), (3, .ref (b + 178)), (4, .int (nI k))]) hx hb dL_law_1527 hl (by decide) rfl (fun ls hl => ?_)
  refine lv_aload_n hx hb dL_law_1529 rfl (lv_at hl 3 rfl) ?_
  refine lv_aload_n hx hb dL_law_1530 rfl (lv_at hl 1 rfl) ?_
  refine lv_iload hx hb dL_law_1531 (lv_at hl 5 rfl) ?_
  refine lv_iconst (v := 1) hx hb dL_law_1533 (by decide) ?_
  refine iadd_n (a := k) (b := 1) hx hb dL_law_1534 ?_
  refine sld_n (j := k + 1) hx hb hX hsc hS (by omega) hL dL_law_1535 ?_
  refine lv_aload_n hx hb dL_law_1536 rfl (lv_at hl 1 rfl) ?_
  refine lv_iload hx hb dL_law_1537 (lv_at hl 5 rfl) ?_
  refine lv_iconst (v := 2) hx hb dL_law_1539 (by decide) ?_
  refine iadd_n (a := k) (b := 2) hx hb dL_law_1540 ?_
  refine sld_n (j := k + 2) hx hb hX hsc hS (by omega) hL dL_law_1541 ?_
  refine lv_i2l (v := (xs (k + 2)).toInt64) hx hb dL_law_1542 rfl ?_
  refine lv_bipush (v := 32) hx hb dL_law_1543 (by decide) ?_
  refine lv_lshl (v := jShl (xs (k + 2)).toInt64 32) hx hb dL_law_1545 rfl ?_
  refine lv_aload_n hx hb dL_law_1546 rfl (lv_at hl 1 rfl) ?_
  refine lv_iload hx hb dL_law_1547 (lv_at hl 5 rfl) ?_
  refine lv_iconst (v := 3) hx hb dL_law_1549 (by decide) ?_
  refine iadd_n (a := k) (b := 3) hx hb dL_law_1550 ?_
  refine sld_n (j := k + 3) hx hb hX hsc hS (by omega) hL dL_law_1551 ?_
  refine lv_i2l (v := (xs (k + 3)).toInt64) hx hb dL_law_1552 rfl ?_
  refine lv_ldc2 (v := 4294967295) hx hb hown (hts (.constantLong RL 177 (4294967295)) (by decide +kernel)) dL_law_1553 ?_
  refine lv_land hx hb dL_law_1556 ?_
  refine lv_lor hx hb dL_law_1557 ?_
  refine cl_mi (rV (As := [.int (xs (k + 1)), .long ((jShl (xs (k + 2)).toInt64 32) ||| ((xs (k + 3)).toInt64 &&& 4294967295))]) (rest := []) ⟨hx, hb, hml, hown, hts⟩ (c_X7_runScript l G (b + 170) M (xs (k + 1)) (((jShl (xs (k + 2)).toInt64 32) ||| ((xs (k + 3)).toInt64 &&& 4294967295))) (E.ri hR)) (cwV 2 hts gL_law_X7_runScript rfl rfl rfl (by decide +kernel) ⟨Nat.le_of_ble_eq_true rfl, Nat.le_of_ble_eq_true rfl⟩) (md_recv hO hP.2) hP.2 hO rfl hl.1 (Nat.le_of_ble_eq_true rfl) dL_law_1558 ⟨by show cells + 1 + 0 ≤ 601024; omega, by show slots + 6 + 0 ≤ 7293034; omega⟩) hS (fun q hq => Nat.le_trans hb0 (Nat.le_trans (Nat.le_add_right _ _) hq.1)) (fun H2 locs2 hP2 hz2 hk2 hS => ?_)
  have hP := lx_m hP hP2 hk2
  have hop := E.o_runScript (f := f) (xs (k + 1)) (((jShl (xs (k + 2)).toInt64 32) ||| ((xs (k + 3)).toInt64 &&& 4294967295))) hR
  refine lv_istore (lv' := [(6, .int ((h_X7_runScript M (xs (k + 1)) (((jShl (xs (k + 2)).toInt64 32) ||| ((xs (k + 3)).toInt64 &&& 4294967295)))).1)), (5, .int ((wr "java/lang/IllegalArgumentException" (h_X6_runScript X (xs (k + 1)) (((jShl (xs (k + 2)).toInt64 32) ||| ((xs (k + 3)).toInt64 &&& 4294967295)))) (X, f)).1)), (0, .ref sc), (1, .ref b), (2, .ref (b + 170)), (3, .ref (b + 178)), (4, .int (nI k))]) hx hb dL_law_1561 hl (by decide) rfl (fun ls hl => ?_)
  refine lv_aload_n hx hb dL_law_1563 rfl (lv_at hl 4 rfl) ?_
  refine cl_pi (rV (As := []) (rest := []) ⟨hx, hb, hml, hown, hts⟩ (c_X7_thrown l G (b + 170) ((h_X7_runScript M (xs (k + 1)) (((jShl (xs (k + 2)).toInt64 32) ||| ((xs (k + 3)).toInt64 &&& 4294967295)))).2)) (cwV 0 hts gL_law_X7_thrown rfl rfl rfl (by decide +kernel) ⟨Nat.le_of_ble_eq_true rfl, Nat.le_of_ble_eq_true rfl⟩) (md_recv hO hP.2) hP.2 hO rfl hl.1 (Nat.le_of_ble_eq_true rfl) dL_law_1564 ⟨by show cells + 1 + 0 ≤ 601024; omega, by show slots + 6 + 0 ≤ 7293034; omega⟩) ?_
  refine lv_iload hx hb dL_law_1567 (lv_at hl 1 rfl) ?_
  refine lv_icmp_eq (tgt := 1574) hx hb dL_law_1569 (by decide) (fun c3 => ?_) (fun c3 => ?_)
  rotate_left
  · exact absurd hop.1 c3
  refine lv_iload hx hb dL_law_1574 (lv_at hl 1 rfl) ?_
  refine lv_if_ne (tgt := 1591) hx hb dL_law_1576 (by decide) (fun c4 => ?_) (fun c4 => ?_)
  · refine lv_goto (tgt := 1806) hx hb dL_law_1591 (by decide) ?_
    exact kk _ _ _ _ _ _ _ hop.2.1 hP hS (lv_sub hl [2, 3, 4, 5, 6] rfl) (by omega) (by omega)
  · refine lv_aload_n hx hb dL_law_1579 rfl (lv_at hl 5 rfl) ?_
    refine lv_iconst (v := 0) hx hb dL_law_1580 (by decide) ?_
    refine va_lald hx hb hO.1 hP.1.2 0 4 rfl rfl (by unfold vp_in; decide) dL_law_1581 ?_
    refine lv_iload hx hb dL_law_1582 (lv_at hl 0 rfl) ?_
    refine lv_i2l (v := ((h_X7_runScript M (xs (k + 1)) (((jShl (xs (k + 2)).toInt64 32) ||| ((xs (k + 3)).toInt64 &&& 4294967295)))).1).toInt64) hx hb dL_law_1584 rfl ?_
    refine W.lcmp hx hb dL_law_1585 ?_
    refine lv_if_eq (tgt := 1591) hx hb dL_law_1586 (by decide) (fun c5 => ?_) (fun c5 => ?_)
    rotate_left
    · exact absurd (by rw [hop.2.2 c4]; exact lg_self _) c5
    refine lv_goto (tgt := 1806) hx hb dL_law_1591 (by decide) ?_
    exact kk _ _ _ _ _ _ _ hop.2.1 hP hS (lv_sub hl [2, 3, 4, 5, 6] rfl) (by omega) (by omega)

set_option maxHeartbeats 4000000 in
set_option maxRecDepth 100000 in
theorem cs_simulate {l : Launch} {G : GG} {p : Program} {e : Env} {s : State} {m : MethodId} {below : List Frame} {meth : Method} {cd : Code} {sc L : Nat} {xs : Nat → Int32} (hC : LC l G p s m meth cd sc L xs) {P : Cx → Mo → Prop} (E : L27 P) {b k : Nat} {X : Cx} {f : Nat → Int64} {M : Mo} {H : Heap} {locs : List Loc} {cells slots : Nat} {ls : Array Slot} {Q : State → Prop} (hb0 : s.heap.size ≤ b) (hcs : cells ≤ 3000) (hss : slots ≤ 30000) (hk4 : k + 4 ≤ L) (hP : LX G b (X, f) M H) (hR : P X M) (hS : va_S (frm s.heap.size) s.heap H locs) (hl : lv_has ls 7 [(0, .ref sc), (1, .ref b), (2, .ref (b + 170)), (3, .ref (b + 178)), (4, .int (nI k))])
    (kk : ∀ (S1 : Wx) (M1 : Mo) (H1 : Heap) (locs1 : List Loc) (ls1 : Array Slot) (cells1 slots1 : Nat), P S1.1 M1 → LX G b S1 M1 H1 → va_S (frm s.heap.size) s.heap H1 locs1 → lv_has ls1 7 [(0, .ref sc), (1, .ref b), (2, .ref (b + 170)), (3, .ref (b + 178)), (4, .int (nI k))] → cells1 ≤ cells + 1 → slots1 ≤ slots + 6 → W p l e room_1 s m #[.ref sc] below meth cd H1 locs1 cells1 slots1 Q (F0 m 1806 ls1 [])) : W p l e room_1 s m #[.ref sc] below meth cd H locs cells slots Q (F0 m 1594 ls []) := by
  obtain ⟨hx, hb, hr, hml, hown, hts, hX, hsc, hlocks, hO, hTh, hN, hAO, hst, hL⟩ := hC
  refine lv_aload_n hx hb dL_law_1594 rfl (lv_at hl 1 rfl) ?_
  refine lv_aload_n hx hb dL_law_1595 rfl (lv_at hl 0 rfl) ?_
  refine lv_iload hx hb dL_law_1596 (lv_at hl 4 rfl) ?_
  refine lv_iconst (v := 1) hx hb dL_law_1598 (by decide) ?_
  refine iadd_n (a := k) (b := 1) hx hb dL_law_1599 ?_
  refine sld_n (j := k + 1) hx hb hX hsc hS (by omega) hL dL_law_1600 ?_
  refine lv_i2l (v := (xs (k + 1)).toInt64) hx hb dL_law_1601 rfl ?_
  refine lv_bipush (v := 32) hx hb dL_law_1602 (by decide) ?_
  refine lv_lshl (v := jShl (xs (k + 1)).toInt64 32) hx hb dL_law_1604 rfl ?_
  refine lv_aload_n hx hb dL_law_1605 rfl (lv_at hl 0 rfl) ?_
  refine lv_iload hx hb dL_law_1606 (lv_at hl 4 rfl) ?_
  refine lv_iconst (v := 2) hx hb dL_law_1608 (by decide) ?_
  refine iadd_n (a := k) (b := 2) hx hb dL_law_1609 ?_
  refine sld_n (j := k + 2) hx hb hX hsc hS (by omega) hL dL_law_1610 ?_
  refine lv_i2l (v := (xs (k + 2)).toInt64) hx hb dL_law_1611 rfl ?_
  refine lv_ldc2 (v := 4294967295) hx hb hown (hts (.constantLong RL 177 (4294967295)) (by decide +kernel)) dL_law_1612 ?_
  refine lv_land hx hb dL_law_1615 ?_
  refine lv_lor hx hb dL_law_1616 ?_
  refine lv_aload_n hx hb dL_law_1617 rfl (lv_at hl 0 rfl) ?_
  refine lv_iload hx hb dL_law_1618 (lv_at hl 4 rfl) ?_
  refine lv_iconst (v := 3) hx hb dL_law_1620 (by decide) ?_
  refine iadd_n (a := k) (b := 3) hx hb dL_law_1621 ?_
  refine sld_n (j := k + 3) hx hb hX hsc hS (by omega) hL dL_law_1622 ?_
  refine lv_aload_n hx hb dL_law_1623 rfl (lv_at hl 3 rfl) ?_
  refine cl_mx (xSW (A := wfr b (b + 178)) (As := [.ref b, .long ((jShl (xs (k + 1)).toInt64 32) ||| ((xs (k + 2)).toInt64 &&& 4294967295)), .int (xs (k + 3)), .ref (b + 178)]) (rest := []) ⟨hx, hb, hml, hown, hts⟩ (c_L_simulate l G b (b + 178) (X, f) (((jShl (xs (k + 1)).toInt64 32) ||| ((xs (k + 2)).toInt64 &&& 4294967295))) (xs (k + 3)) hst (.inr (by omega))) (vx_cwSW 4 hts gL_law_L_simulate rfl rfl rfl (by decide +kernel) ⟨Nat.le_of_ble_eq_true rfl, Nat.le_of_ble_eq_true rfl⟩) hP.1 hO (fun U hU hW => (hTh.kept hW (by rw [hU]; exact hS.2.1)).sub (fun q hq => by rcases hq with hq | hq; exact Nat.le_trans hb0 hq.1; exact Nat.le_trans hb0 (by omega))) hN rfl hl.1 (Nat.le_of_ble_eq_true rfl) dL_law_1624 ⟨by show cells + 0 + 1 ≤ 601024; omega, by show slots + 0 + 6 ≤ 7293034; omega⟩) (fun H1 L1 hP1 hz1 hk1 hL1 => ?_)
  have hS := S_app hS hz1 hk1 hL1 (fun q hq => by rcases hq with hq | hq; exact Nat.le_trans hb0 hq.1; exact Nat.le_trans hb0 (by omega))
  have hP := lx_w hP hP1 hk1
  refine lv_istore (lv' := [(5, .int ((wr "java/lang/IllegalArgumentException" (h_X6_simulate X (((jShl (xs (k + 1)).toInt64 32) ||| ((xs (k + 2)).toInt64 &&& 4294967295))) (xs (k + 3))) (X, f)).1)), (0, .ref sc), (1, .ref b), (2, .ref (b + 170)), (3, .ref (b + 178)), (4, .int (nI k))]) hx hb dL_law_1627 hl (by decide) rfl (fun ls hl => ?_)
  refine lv_aload_n hx hb dL_law_1629 rfl (lv_at hl 3 rfl) ?_
  refine lv_aload_n hx hb dL_law_1630 rfl (lv_at hl 1 rfl) ?_
  refine lv_iload hx hb dL_law_1631 (lv_at hl 5 rfl) ?_
  refine lv_iconst (v := 1) hx hb dL_law_1633 (by decide) ?_
  refine iadd_n (a := k) (b := 1) hx hb dL_law_1634 ?_
  refine sld_n (j := k + 1) hx hb hX hsc hS (by omega) hL dL_law_1635 ?_
  refine lv_i2l (v := (xs (k + 1)).toInt64) hx hb dL_law_1636 rfl ?_
  refine lv_bipush (v := 32) hx hb dL_law_1637 (by decide) ?_
  refine lv_lshl (v := jShl (xs (k + 1)).toInt64 32) hx hb dL_law_1639 rfl ?_
  refine lv_aload_n hx hb dL_law_1640 rfl (lv_at hl 1 rfl) ?_
  refine lv_iload hx hb dL_law_1641 (lv_at hl 5 rfl) ?_
  refine lv_iconst (v := 2) hx hb dL_law_1643 (by decide) ?_
  refine iadd_n (a := k) (b := 2) hx hb dL_law_1644 ?_
  refine sld_n (j := k + 2) hx hb hX hsc hS (by omega) hL dL_law_1645 ?_
  refine lv_i2l (v := (xs (k + 2)).toInt64) hx hb dL_law_1646 rfl ?_
  refine lv_ldc2 (v := 4294967295) hx hb hown (hts (.constantLong RL 177 (4294967295)) (by decide +kernel)) dL_law_1647 ?_
  refine lv_land hx hb dL_law_1650 ?_
  refine lv_lor hx hb dL_law_1651 ?_
  refine lv_aload_n hx hb dL_law_1652 rfl (lv_at hl 1 rfl) ?_
  refine lv_iload hx hb dL_law_1653 (lv_at hl 5 rfl) ?_
  refine lv_iconst (v := 3) hx hb dL_law_1655 (by decide) ?_
  refine iadd_n (a := k) (b := 3) hx hb dL_law_1656 ?_
  refine sld_n (j := k + 3) hx hb hX hsc hS (by omega) hL dL_law_1657 ?_
  refine cl_mi (rV (As := [.long ((jShl (xs (k + 1)).toInt64 32) ||| ((xs (k + 2)).toInt64 &&& 4294967295)), .int (xs (k + 3))]) (rest := []) ⟨hx, hb, hml, hown, hts⟩ (c_X7_simulate l G (b + 170) M (((jShl (xs (k + 1)).toInt64 32) ||| ((xs (k + 2)).toInt64 &&& 4294967295))) (xs (k + 3)) (E.ri hR)) (cwV 2 hts gL_law_X7_simulate rfl rfl rfl (by decide +kernel) ⟨Nat.le_of_ble_eq_true rfl, Nat.le_of_ble_eq_true rfl⟩) (md_recv hO hP.2) hP.2 hO rfl hl.1 (Nat.le_of_ble_eq_true rfl) dL_law_1658 ⟨by show cells + 1 + 0 ≤ 601024; omega, by show slots + 6 + 0 ≤ 7293034; omega⟩) hS (fun q hq => Nat.le_trans hb0 (Nat.le_trans (Nat.le_add_right _ _) hq.1)) (fun H2 locs2 hP2 hz2 hk2 hS => ?_)
  have hP := lx_m hP hP2 hk2
  have hop := E.o_simulate (f := f) (((jShl (xs (k + 1)).toInt64 32) ||| ((xs (k + 2)).toInt64 &&& 4294967295))) (xs (k + 3)) hR
  refine lv_istore (lv' := [(6, .int ((h_X7_simulate M (((jShl (xs (k + 1)).toInt64 32) ||| ((xs (k + 2)).toInt64 &&& 4294967295))) (xs (k + 3))).1)), (5, .int ((wr "java/lang/IllegalArgumentException" (h_X6_simulate X (((jShl (xs (k + 1)).toInt64 32) ||| ((xs (k + 2)).toInt64 &&& 4294967295))) (xs (k + 3))) (X, f)).1)), (0, .ref sc), (1, .ref b), (2, .ref (b + 170)), (3, .ref (b + 178)), (4, .int (nI k))]) hx hb dL_law_1661 hl (by decide) rfl (fun ls hl => ?_)
  refine lv_aload_n hx hb dL_law_1663 rfl (lv_at hl 4 rfl) ?_
  refine cl_pi (rV (As := []) (rest := []) ⟨hx, hb, hml, hown, hts⟩ (c_X7_thrown l G (b + 170) ((h_X7_simulate M (((jShl (xs (k + 1)).toInt64 32) ||| ((xs (k + 2)).toInt64 &&& 4294967295))) (xs (k + 3))).2)) (cwV 0 hts gL_law_X7_thrown rfl rfl rfl (by decide +kernel) ⟨Nat.le_of_ble_eq_true rfl, Nat.le_of_ble_eq_true rfl⟩) (md_recv hO hP.2) hP.2 hO rfl hl.1 (Nat.le_of_ble_eq_true rfl) dL_law_1664 ⟨by show cells + 1 + 0 ≤ 601024; omega, by show slots + 6 + 0 ≤ 7293034; omega⟩) ?_
  refine lv_iload hx hb dL_law_1667 (lv_at hl 1 rfl) ?_
  refine lv_icmp_eq (tgt := 1674) hx hb dL_law_1669 (by decide) (fun c3 => ?_) (fun c3 => ?_)
  rotate_left
  · exact absurd hop.1 c3
  refine lv_iload hx hb dL_law_1674 (lv_at hl 1 rfl) ?_
  refine lv_if_ne (tgt := 1691) hx hb dL_law_1676 (by decide) (fun c4 => ?_) (fun c4 => ?_)
  · refine lv_goto (tgt := 1806) hx hb dL_law_1691 (by decide) ?_
    exact kk _ _ _ _ _ _ _ hop.2.1 hP hS (lv_sub hl [2, 3, 4, 5, 6] rfl) (by omega) (by omega)
  · refine lv_aload_n hx hb dL_law_1679 rfl (lv_at hl 5 rfl) ?_
    refine lv_iconst (v := 0) hx hb dL_law_1680 (by decide) ?_
    refine va_lald hx hb hO.1 hP.1.2 0 4 rfl rfl (by unfold vp_in; decide) dL_law_1681 ?_
    refine lv_iload hx hb dL_law_1682 (lv_at hl 0 rfl) ?_
    refine lv_i2l (v := ((h_X7_simulate M (((jShl (xs (k + 1)).toInt64 32) ||| ((xs (k + 2)).toInt64 &&& 4294967295))) (xs (k + 3))).1).toInt64) hx hb dL_law_1684 rfl ?_
    refine W.lcmp hx hb dL_law_1685 ?_
    refine lv_if_eq (tgt := 1691) hx hb dL_law_1686 (by decide) (fun c5 => ?_) (fun c5 => ?_)
    rotate_left
    · exact absurd (by rw [hop.2.2 c4]; exact lg_self _) c5
    refine lv_goto (tgt := 1806) hx hb dL_law_1691 (by decide) ?_
    exact kk _ _ _ _ _ _ _ hop.2.1 hP hS (lv_sub hl [2, 3, 4, 5, 6] rfl) (by omega) (by omega)

set_option maxHeartbeats 4000000 in
set_option maxRecDepth 100000 in
theorem cs_save {l : Launch} {G : GG} {p : Program} {e : Env} {s : State} {m : MethodId} {below : List Frame} {meth : Method} {cd : Code} {sc L : Nat} {xs : Nat → Int32} (hC : LC l G p s m meth cd sc L xs) {P : Cx → Mo → Prop} (E : L27 P) {b k : Nat} {X : Cx} {f : Nat → Int64} {M : Mo} {H : Heap} {locs : List Loc} {cells slots : Nat} {ls : Array Slot} {Q : State → Prop} (hb0 : s.heap.size ≤ b) (hcs : cells ≤ 3000) (hss : slots ≤ 30000) (hk4 : k + 4 ≤ L) (hP : LX G b (X, f) M H) (hR : P X M) (hS : va_S (frm s.heap.size) s.heap H locs) (hl : lv_has ls 7 [(0, .ref sc), (1, .ref b), (2, .ref (b + 170)), (3, .ref (b + 178)), (4, .int (nI k))])
    (kk : ∀ (S1 : Wx) (M1 : Mo) (H1 : Heap) (locs1 : List Loc) (ls1 : Array Slot) (cells1 slots1 : Nat), P S1.1 M1 → LX G b S1 M1 H1 → va_S (frm s.heap.size) s.heap H1 locs1 → lv_has ls1 7 [(0, .ref sc), (1, .ref b), (2, .ref (b + 170)), (3, .ref (b + 178)), (4, .int (nI k))] → cells1 ≤ cells + 1 → slots1 ≤ slots + 6 → W p l e room_1 s m #[.ref sc] below meth cd H1 locs1 cells1 slots1 Q (F0 m 1806 ls1 [])) : W p l e room_1 s m #[.ref sc] below meth cd H locs cells slots Q (F0 m 1694 ls []) := by
  obtain ⟨hx, hb, hr, hml, hown, hts, hX, hsc, hlocks, hO, hTh, hN, hAO, hst, hL⟩ := hC
  refine lv_aload_n hx hb dL_law_1694 rfl (lv_at hl 1 rfl) ?_
  refine lv_aload_n hx hb dL_law_1695 rfl (lv_at hl 0 rfl) ?_
  refine lv_iload hx hb dL_law_1696 (lv_at hl 4 rfl) ?_
  refine lv_iconst (v := 1) hx hb dL_law_1698 (by decide) ?_
  refine iadd_n (a := k) (b := 1) hx hb dL_law_1699 ?_
  refine sld_n (j := k + 1) hx hb hX hsc hS (by omega) hL dL_law_1700 ?_
  refine lv_aload_n hx hb dL_law_1701 rfl (lv_at hl 3 rfl) ?_
  refine cl_mx (xSW (A := wfr b (b + 178)) (As := [.ref b, .int (xs (k + 1)), .ref (b + 178)]) (rest := []) ⟨hx, hb, hml, hown, hts⟩ (c_L_save l G b (b + 178) (X, f) (xs (k + 1)) hst (.inr (by omega))) (vx_cwSW 3 hts gL_law_L_save rfl rfl rfl (by decide +kernel) ⟨Nat.le_of_ble_eq_true rfl, Nat.le_of_ble_eq_true rfl⟩) hP.1 hO (fun U hU hW => (hTh.kept hW (by rw [hU]; exact hS.2.1)).sub (fun q hq => by rcases hq with hq | hq; exact Nat.le_trans hb0 hq.1; exact Nat.le_trans hb0 (by omega))) hN rfl hl.1 (Nat.le_of_ble_eq_true rfl) dL_law_1702 ⟨by show cells + 0 + 1 ≤ 601024; omega, by show slots + 0 + 6 ≤ 7293034; omega⟩) (fun H1 L1 hP1 hz1 hk1 hL1 => ?_)
  have hS := S_app hS hz1 hk1 hL1 (fun q hq => by rcases hq with hq | hq; exact Nat.le_trans hb0 hq.1; exact Nat.le_trans hb0 (by omega))
  have hP := lx_w hP hP1 hk1
  refine lv_istore (lv' := [(5, .int ((wr "java/lang/IndexOutOfBoundsException" (h_X6_save X (xs (k + 1))) (X, f)).1)), (0, .ref sc), (1, .ref b), (2, .ref (b + 170)), (3, .ref (b + 178)), (4, .int (nI k))]) hx hb dL_law_1705 hl (by decide) rfl (fun ls hl => ?_)
  refine lv_aload_n hx hb dL_law_1707 rfl (lv_at hl 3 rfl) ?_
  refine lv_aload_n hx hb dL_law_1708 rfl (lv_at hl 1 rfl) ?_
  refine lv_iload hx hb dL_law_1709 (lv_at hl 5 rfl) ?_
  refine lv_iconst (v := 1) hx hb dL_law_1711 (by decide) ?_
  refine iadd_n (a := k) (b := 1) hx hb dL_law_1712 ?_
  refine sld_n (j := k + 1) hx hb hX hsc hS (by omega) hL dL_law_1713 ?_
  refine cl_mi (rV (As := [.int (xs (k + 1))]) (rest := []) ⟨hx, hb, hml, hown, hts⟩ (c_X7_save l G (b + 170) M (xs (k + 1))) (cwV 1 hts gL_law_X7_save rfl rfl rfl (by decide +kernel) ⟨Nat.le_of_ble_eq_true rfl, Nat.le_of_ble_eq_true rfl⟩) (md_recv hO hP.2) hP.2 hO rfl hl.1 (Nat.le_of_ble_eq_true rfl) dL_law_1714 ⟨by show cells + 1 + 0 ≤ 601024; omega, by show slots + 6 + 0 ≤ 7293034; omega⟩) hS (fun q hq => Nat.le_trans hb0 (Nat.le_trans (Nat.le_add_right _ _) hq.1)) (fun H2 locs2 hP2 hz2 hk2 hS => ?_)
  have hP := lx_m hP hP2 hk2
  have hop := E.o_save (f := f) (xs (k + 1)) hR
  refine lv_istore (lv' := [(6, .int ((h_X7_save M (xs (k + 1))).1)), (5, .int ((wr "java/lang/IndexOutOfBoundsException" (h_X6_save X (xs (k + 1))) (X, f)).1)), (0, .ref sc), (1, .ref b), (2, .ref (b + 170)), (3, .ref (b + 178)), (4, .int (nI k))]) hx hb dL_law_1717 hl (by decide) rfl (fun ls hl => ?_)
  refine lv_aload_n hx hb dL_law_1719 rfl (lv_at hl 4 rfl) ?_
  refine cl_pi (rV (As := []) (rest := []) ⟨hx, hb, hml, hown, hts⟩ (c_X7_thrown l G (b + 170) ((h_X7_save M (xs (k + 1))).2)) (cwV 0 hts gL_law_X7_thrown rfl rfl rfl (by decide +kernel) ⟨Nat.le_of_ble_eq_true rfl, Nat.le_of_ble_eq_true rfl⟩) (md_recv hO hP.2) hP.2 hO rfl hl.1 (Nat.le_of_ble_eq_true rfl) dL_law_1720 ⟨by show cells + 1 + 0 ≤ 601024; omega, by show slots + 6 + 0 ≤ 7293034; omega⟩) ?_
  refine lv_iload hx hb dL_law_1723 (lv_at hl 1 rfl) ?_
  refine lv_icmp_eq (tgt := 1730) hx hb dL_law_1725 (by decide) (fun c3 => ?_) (fun c3 => ?_)
  rotate_left
  · exact absurd hop.1 c3
  refine lv_iload hx hb dL_law_1730 (lv_at hl 1 rfl) ?_
  refine lv_if_ne (tgt := 1747) hx hb dL_law_1732 (by decide) (fun c4 => ?_) (fun c4 => ?_)
  · refine lv_goto (tgt := 1806) hx hb dL_law_1747 (by decide) ?_
    exact kk _ _ _ _ _ _ _ hop.2.1 hP hS (lv_sub hl [2, 3, 4, 5, 6] rfl) (by omega) (by omega)
  · refine lv_aload_n hx hb dL_law_1735 rfl (lv_at hl 5 rfl) ?_
    refine lv_iconst (v := 0) hx hb dL_law_1736 (by decide) ?_
    refine va_lald hx hb hO.1 hP.1.2 0 4 rfl rfl (by unfold vp_in; decide) dL_law_1737 ?_
    refine lv_iload hx hb dL_law_1738 (lv_at hl 0 rfl) ?_
    refine lv_i2l (v := ((h_X7_save M (xs (k + 1))).1).toInt64) hx hb dL_law_1740 rfl ?_
    refine W.lcmp hx hb dL_law_1741 ?_
    refine lv_if_eq (tgt := 1747) hx hb dL_law_1742 (by decide) (fun c5 => ?_) (fun c5 => ?_)
    rotate_left
    · exact absurd (by rw [hop.2.2 c4]; exact lg_self _) c5
    refine lv_goto (tgt := 1806) hx hb dL_law_1747 (by decide) ?_
    exact kk _ _ _ _ _ _ _ hop.2.1 hP hS (lv_sub hl [2, 3, 4, 5, 6] rfl) (by omega) (by omega)

set_option maxHeartbeats 4000000 in
set_option maxRecDepth 100000 in
theorem cs_restore {l : Launch} {G : GG} {p : Program} {e : Env} {s : State} {m : MethodId} {below : List Frame} {meth : Method} {cd : Code} {sc L : Nat} {xs : Nat → Int32} (hC : LC l G p s m meth cd sc L xs) {P : Cx → Mo → Prop} (E : L27 P) {b k : Nat} {X : Cx} {f : Nat → Int64} {M : Mo} {H : Heap} {locs : List Loc} {cells slots : Nat} {ls : Array Slot} {Q : State → Prop} (hb0 : s.heap.size ≤ b) (hcs : cells ≤ 3000) (hss : slots ≤ 30000) (hk4 : k + 4 ≤ L) (hP : LX G b (X, f) M H) (hR : P X M) (hS : va_S (frm s.heap.size) s.heap H locs) (hl : lv_has ls 7 [(0, .ref sc), (1, .ref b), (2, .ref (b + 170)), (3, .ref (b + 178)), (4, .int (nI k))])
    (kk : ∀ (S1 : Wx) (M1 : Mo) (H1 : Heap) (locs1 : List Loc) (ls1 : Array Slot) (cells1 slots1 : Nat), P S1.1 M1 → LX G b S1 M1 H1 → va_S (frm s.heap.size) s.heap H1 locs1 → lv_has ls1 7 [(0, .ref sc), (1, .ref b), (2, .ref (b + 170)), (3, .ref (b + 178)), (4, .int (nI k))] → cells1 ≤ cells + 1 → slots1 ≤ slots + 6 → W p l e room_1 s m #[.ref sc] below meth cd H1 locs1 cells1 slots1 Q (F0 m 1806 ls1 [])) : W p l e room_1 s m #[.ref sc] below meth cd H locs cells slots Q (F0 m 1750 ls []) := by
  obtain ⟨hx, hb, hr, hml, hown, hts, hX, hsc, hlocks, hO, hTh, hN, hAO, hst, hL⟩ := hC
  refine lv_aload_n hx hb dL_law_1750 rfl (lv_at hl 1 rfl) ?_
  refine lv_aload_n hx hb dL_law_1751 rfl (lv_at hl 0 rfl) ?_
  refine lv_iload hx hb dL_law_1752 (lv_at hl 4 rfl) ?_
  refine lv_iconst (v := 1) hx hb dL_law_1754 (by decide) ?_
  refine iadd_n (a := k) (b := 1) hx hb dL_law_1755 ?_
  refine sld_n (j := k + 1) hx hb hX hsc hS (by omega) hL dL_law_1756 ?_
  refine lv_aload_n hx hb dL_law_1757 rfl (lv_at hl 3 rfl) ?_
  refine cl_mx (xSW (A := wfr b (b + 178)) (As := [.ref b, .int (xs (k + 1)), .ref (b + 178)]) (rest := []) ⟨hx, hb, hml, hown, hts⟩ (c_L_restore l G b (b + 178) (X, f) (xs (k + 1)) hst (.inr (by omega))) (vx_cwSW 3 hts gL_law_L_restore rfl rfl rfl (by decide +kernel) ⟨Nat.le_of_ble_eq_true rfl, Nat.le_of_ble_eq_true rfl⟩) hP.1 hO (fun U hU hW => (hTh.kept hW (by rw [hU]; exact hS.2.1)).sub (fun q hq => by rcases hq with hq | hq; exact Nat.le_trans hb0 hq.1; exact Nat.le_trans hb0 (by omega))) hN rfl hl.1 (Nat.le_of_ble_eq_true rfl) dL_law_1758 ⟨by show cells + 0 + 1 ≤ 601024; omega, by show slots + 0 + 6 ≤ 7293034; omega⟩) (fun H1 L1 hP1 hz1 hk1 hL1 => ?_)
  have hS := S_app hS hz1 hk1 hL1 (fun q hq => by rcases hq with hq | hq; exact Nat.le_trans hb0 hq.1; exact Nat.le_trans hb0 (by omega))
  have hP := lx_w hP hP1 hk1
  refine lv_istore (lv' := [(5, .int ((wr "java/lang/IndexOutOfBoundsException" (h_X6_restore X (xs (k + 1))) (X, f)).1)), (0, .ref sc), (1, .ref b), (2, .ref (b + 170)), (3, .ref (b + 178)), (4, .int (nI k))]) hx hb dL_law_1761 hl (by decide) rfl (fun ls hl => ?_)
  refine lv_aload_n hx hb dL_law_1763 rfl (lv_at hl 3 rfl) ?_
  refine lv_aload_n hx hb dL_law_1764 rfl (lv_at hl 1 rfl) ?_
  refine lv_iload hx hb dL_law_1765 (lv_at hl 5 rfl) ?_
  refine lv_iconst (v := 1) hx hb dL_law_1767 (by decide) ?_
  refine iadd_n (a := k) (b := 1) hx hb dL_law_1768 ?_
  refine sld_n (j := k + 1) hx hb hX hsc hS (by omega) hL dL_law_1769 ?_
  refine cl_mi (rV (As := [.int (xs (k + 1))]) (rest := []) ⟨hx, hb, hml, hown, hts⟩ (c_X7_restore l G (b + 170) M (xs (k + 1))) (cwV 1 hts gL_law_X7_restore rfl rfl rfl (by decide +kernel) ⟨Nat.le_of_ble_eq_true rfl, Nat.le_of_ble_eq_true rfl⟩) (md_recv hO hP.2) hP.2 hO rfl hl.1 (Nat.le_of_ble_eq_true rfl) dL_law_1770 ⟨by show cells + 1 + 0 ≤ 601024; omega, by show slots + 6 + 0 ≤ 7293034; omega⟩) hS (fun q hq => Nat.le_trans hb0 (Nat.le_trans (Nat.le_add_right _ _) hq.1)) (fun H2 locs2 hP2 hz2 hk2 hS => ?_)
  have hP := lx_m hP hP2 hk2
  have hop := E.o_restore (f := f) (xs (k + 1)) hR
  refine lv_istore (lv' := [(6, .int ((h_X7_restore M (xs (k + 1))).1)), (5, .int ((wr "java/lang/IndexOutOfBoundsException" (h_X6_restore X (xs (k + 1))) (X, f)).1)), (0, .ref sc), (1, .ref b), (2, .ref (b + 170)), (3, .ref (b + 178)), (4, .int (nI k))]) hx hb dL_law_1773 hl (by decide) rfl (fun ls hl => ?_)
  refine lv_aload_n hx hb dL_law_1775 rfl (lv_at hl 4 rfl) ?_
  refine cl_pi (rV (As := []) (rest := []) ⟨hx, hb, hml, hown, hts⟩ (c_X7_thrown l G (b + 170) ((h_X7_restore M (xs (k + 1))).2)) (cwV 0 hts gL_law_X7_thrown rfl rfl rfl (by decide +kernel) ⟨Nat.le_of_ble_eq_true rfl, Nat.le_of_ble_eq_true rfl⟩) (md_recv hO hP.2) hP.2 hO rfl hl.1 (Nat.le_of_ble_eq_true rfl) dL_law_1776 ⟨by show cells + 1 + 0 ≤ 601024; omega, by show slots + 6 + 0 ≤ 7293034; omega⟩) ?_
  refine lv_iload hx hb dL_law_1779 (lv_at hl 1 rfl) ?_
  refine lv_icmp_eq (tgt := 1786) hx hb dL_law_1781 (by decide) (fun c3 => ?_) (fun c3 => ?_)
  rotate_left
  · exact absurd hop.1 c3
  refine lv_iload hx hb dL_law_1786 (lv_at hl 1 rfl) ?_
  refine lv_if_ne (tgt := 1803) hx hb dL_law_1788 (by decide) (fun c4 => ?_) (fun c4 => ?_)
  · refine lv_goto (tgt := 1806) hx hb dL_law_1803 (by decide) ?_
    exact kk _ _ _ _ _ _ _ hop.2.1 hP hS (lv_sub hl [2, 3, 4, 5, 6] rfl) (by omega) (by omega)
  · refine lv_aload_n hx hb dL_law_1791 rfl (lv_at hl 5 rfl) ?_
    refine lv_iconst (v := 0) hx hb dL_law_1792 (by decide) ?_
    refine va_lald hx hb hO.1 hP.1.2 0 4 rfl rfl (by unfold vp_in; decide) dL_law_1793 ?_
    refine lv_iload hx hb dL_law_1794 (lv_at hl 0 rfl) ?_
    refine lv_i2l (v := ((h_X7_restore M (xs (k + 1))).1).toInt64) hx hb dL_law_1796 rfl ?_
    refine W.lcmp hx hb dL_law_1797 ?_
    refine lv_if_eq (tgt := 1803) hx hb dL_law_1798 (by decide) (fun c5 => ?_) (fun c5 => ?_)
    rotate_left
    · exact absurd (by rw [hop.2.2 c4]; exact lg_self _) c5
    refine lv_goto (tgt := 1806) hx hb dL_law_1803 (by decide) ?_
    exact kk _ _ _ _ _ _ _ hop.2.1 hP hS (lv_sub hl [2, 3, 4, 5, 6] rfl) (by omega) (by omega)
