set_option maxRecDepth 100000
/-- what stands all through the law -/
def LC (l : Launch) (G : GG) (p : Program) (s : State) (m : MethodId) (meth : Method) (c : Code) (sc L : Nat) (xs : Nat → Int32) : Prop :=
  (p.tables.exec = Jvm.exec) ∧ (c.code = cL_law) ∧ (meth.sig.returnType = some .boolean) ∧ (c.maxLocals = 9) ∧ (s.vm.findClass RL = some m.cls) ∧ (∀ w ∈ wsL_law, w.before #[.ref sc] s = true) ∧ (va_X sc L xs s s.heap) ∧ (sc < s.heap.size) ∧ (meth.locks = false) ∧ (Ok G s) ∧ (Thr (frm s.heap.size) s) ∧ (Nx s) ∧ (va_AO RX4 s) ∧ (l.stackTraces = false) ∧ (L ≤ 260)
theorem str_at {A : Array Value} {U : State} {cur k : Nat} {tx : String} (hcur : U.vm.findClass RX6 = some cur) (h : (Cond.stringRef RX6 k tx).before A U = true) : ∃ sa : Nat, vk_R RX6 k tx sa U := by
  obtain ⟨k1, cf, i, a, -, -, -, -, -, he⟩ := Cond.stringRef_spec hcur h
  exact ⟨a, vk_R.of (A := A) h he⟩
theorem nest_in : ∀ w ∈ nestL, w ∈ lw_tbl := by decide +kernel
theorem nest_on : ∀ w ∈ nestL, w.onTables = true := by decide +kernel
theorem thr_in : ∀ w ∈ thrL, w ∈ lw_tbl := by decide +kernel
theorem thr_on : ∀ w ∈ thrL, w.onTables = true := by decide +kernel
theorem str_in : ∀ q ∈ strL, Cond.stringRef RX6 q.1 q.2 ∈ lw_tbl := by decide +kernel
theorem nc_in : ∀ q ∈ ncL, Cond.not (.castable q.1 q.2) ∈ flatC (Jvm.Cond.and given_1 narrow_1) := by decide +kernel
theorem ref_in1 : Cond.isRef (.static Bundle.tN "UNASSIGNED_STACK" Bundle.steD) ∈ flatC (Jvm.Cond.and given_1 narrow_1) := by decide +kernel
theorem ref_in2 : Cond.isRef (.static Bundle.tN "SUPPRESSED_SENTINEL" Bundle.listD) ∈ flatC (Jvm.Cond.and given_1 narrow_1) := by decide +kernel
set_option maxHeartbeats 4000000 in
theorem start_C {l : Launch} {p : Program} {s : State} {m : MethodId} {meth : Method} {c : Code} {sc L : Nat} {xs : Nat → Int32} (hflags : l.flags = flags0) (hL : L ≤ 260) (C0 : lw_At p s m meth c sc L xs) : ∃ G, LC l G p s m meth c sc L xs := by
  obtain ⟨hx, hb, hr, hml, hown, hts, hX, hsc, hlocks, hgv⟩ := C0
  have h1 : ∀ w ∈ wsL_law, w.before #[.ref sc] s = true := fun w hw => hts w (wsL_law_in w hw)
  have hfl := flat_of_before _ hgv
  have hn9 : ∀ a : Nat, a < s.heap.size → ¬ frm s.heap.size a := fun a h z => Nat.not_le.mpr h z
  obtain ⟨d0, i0, k0⟩ := u_known (C := RX0) (T := TX0) (N := 3) (n := 3) h1 inlX0 (hts (.instantiable RX0 3) (by decide +kernel))
  obtain ⟨d1, i1, k1⟩ := u_known (C := RX1) (T := TX1) (N := 2) (n := 2) h1 inlX1 (hts (.instantiable RX1 2) (by decide +kernel))
  obtain ⟨d4, i4, k4⟩ := u_known (C := RX4) (T := TX4) (N := 14) (n := 14) h1 inlX4 (hts (.instantiable RX4 14) (by decide +kernel))
  obtain ⟨d5, i5, k5⟩ := u_known (C := RX5) (T := TX5) (N := 2) (n := 2) h1 inlX5 (hts (.instantiable RX5 2) (by decide +kernel))
  obtain ⟨d6, i6, k6⟩ := u_known (C := RX6) (T := TX6) (N := 5) (n := 5) h1 inlX6 (hts (.instantiable RX6 5) (by decide +kernel))
  obtain ⟨e0, ka0, cp0, f0, g0, o0⟩ := Cond.arrayClass_spec (hts (.arrayClass .int) (by decide +kernel))
  obtain ⟨e1, ka1, cp1, f1, g1, o1⟩ := Cond.arrayClass_spec (hts (.arrayClass .char) (by decide +kernel))
  obtain ⟨e2, ka2, cp2, f2, g2, o2⟩ := Cond.arrayClass_spec (hts (.arrayClass .boolean) (by decide +kernel))
  obtain ⟨cp3, e3, ka3, j1, -, j2, j3, j4⟩ := Cond.arrayOver_spec (hts (.arrayOver (.object RX4)) (by decide +kernel))
  refine ⟨((fun n => match n with | 0 => d0 | 1 => d1 | 2 => d4 | 3 => d5 | _ => d6, fun n => match n with | 0 => i0 | 1 => i1 | 2 => i4 | 3 => i5 | _ => i6), fun n => match n with | 0 => e0 | 1 => e1 | 2 => e2 | _ => e3), ?_⟩
  refine ⟨hx, hb, hr, hml, hown, h1, hX, hsc, hlocks, ⟨⟨fun n q hq => ?_, fun n q hq => ?_⟩, fun w hw => va_any (A := #[.ref sc]) (nest_on w hw) (hts w (nest_in w hw))⟩, ⟨fun w hw => va_any (A := #[.ref sc]) (thr_on w hw) (hts w (thr_in w hw)), vx_Zqof (hts (.laysStatic Bundle.tN "UNASSIGNED_STACK" Bundle.steD) (by decide +kernel)) (hts (.initialized Bundle.tN) (by decide +kernel)) (hfl _ ref_in1) hn9, vx_Zqof (hts (.laysStatic Bundle.tN "SUPPRESSED_SENTINEL" Bundle.listD) (by decide +kernel)) (hts (.initialized Bundle.tN) (by decide +kernel)) (hfl _ ref_in2) hn9, fun n q hq => str_at k6.2.1 (hts _ (str_in q (List.mem_of_getElem? hq)))⟩, fun q hq => va_Nc.of (hfl _ (nc_in q hq)), va_AO.of (hts (.arrayOver (.object RX4)) (by decide +kernel)), by unfold Launch.stackTraces; rw [hflags]; decide +kernel, hL⟩
  · match n, hq with
    | 0, hq => cases hq; exact k0
    | 1, hq => cases hq; exact k1
    | 2, hq => cases hq; exact k4
    | 3, hq => cases hq; exact k5
    | 4, hq => cases hq; exact k6
    | n + 5, hq => cases hq
  · match n, hq with
    | 0, hq => cases hq; exact ⟨fun N z => ⟨(fun k h => by cases h), ka0, g0, cp0, o0⟩, f0⟩
    | 1, hq => cases hq; exact ⟨fun N z => ⟨(fun k h => by cases h), ka1, g1, cp1, o1⟩, f1⟩
    | 2, hq => cases hq; exact ⟨fun N z => ⟨(fun k h => by cases h), ka2, g2, cp2, o2⟩, f2⟩
    | 3, hq => cases hq; exact ⟨fun N z => ⟨(fun k h => by cases h), ka3, j2, cp3, j3⟩, ⟨ka3, cp3, j2, j3, j1, j4⟩⟩
    | n + 4, hq => cases hq
theorem P_nil {D : va_G} {cl : List vw_C} {H : Heap} : va_P D cl [] H := fun k q h => by cases h

set_option maxHeartbeats 16000000 in
theorem law_start {p : Program} {e : Env} {s : State} {m : MethodId} {below : List Frame} {meth : Method} {cd : Code} {l : Launch} (hflags : l.flags = flags0) {sc L : Nat} {xs : Nat → Int32} (hL : L ≤ 260) (C0 : lw_At p s m meth cd sc L xs) : W p l e room_1 s m #[.ref sc] below meth cd s.heap [] 0 0 (lw_Z below #[.ref sc] s) (entryFrame m ([.ref sc] : List Value).toArray 9) := by
  obtain ⟨G, hC⟩ := start_C hflags hL C0
  obtain ⟨hx, hb, hr, hml, hown, hts, hX, hsc, hlocks, hO, hTh, hN, hAO, hst, -⟩ := hC
  have hl := lv_entry ([.ref sc]) (n := 9) (Nat.le_of_ble_eq_true rfl)
  rw [lg_entry_eq]
  generalize (lg_sl ([.ref sc]) ++ List.replicate (9 - (lg_sl ([.ref sc])).length) Slot.unset).toArray = ls at hl ⊢
  have hl : lv_has ls 9 [(0, .ref sc)] := hl
  obtain ⟨b, hz⟩ : ∃ b, s.heap.size = b := ⟨_, rfl⟩
  have hb0 : s.heap.size ≤ b := by omega
  have hd : b + 170 ≤ b + 170 := Nat.le_refl _
  have hS : va_S (frm s.heap.size) s.heap s.heap [] := va_S.rf
  obtain ⟨w0, hw0, ew0⟩ := cv_nat L xs 0
  obtain ⟨w1, hw1, ew1⟩ := cv_nat L xs 1
  obtain ⟨X1, X2, M1, M2, e1, r1, e2, r2, ch2⟩ := two_in (j1 := 2 + w1 % 7) (t1 := 1 + w1 / 7 % 99) (j2 := 2 + w1 / 700 % 7) (t2 := 1 + w1 / 5000 % 99) (by omega) (by omega) (by omega) (by omega)
  have cut165 : ∀ (n165 : Nat) (k : Nat) (X : Cx) (Y : Cx) (M : Mo), 40 < k + n165 → k ≤ 12 + w0 % 21 → RelX X M → RelX Y M → Ch X → Ch Y → ∀ (H : Heap) (locs : List Loc) (ls : Array Slot), Cb G b X H → Cb G (b + 170) Y H → va_S (frm s.heap.size) s.heap H locs → lv_has ls 9 [(0, .ref sc), (1, .ref b), (2, .ref (b + 170)), (3, .int (nI (12 + w0 % 21))), (5, .int 1), (6, .int (nI k))] → W p l e room_1 s m #[.ref sc] below meth cd H locs (400 + 3000 * k) (16000 + 18000 * k) (lw_Z below #[.ref sc] s) (F0 m 165 ls []) := by
    intro n165
    induction n165 with
    | zero =>
      intro k X Y M hn165 hk rX rY cX cY
      omega
    | succ n165 ih165 =>
      intro k X Y M hn165 hk rX rY cX cY H locs ls hP hQ hS hl
      refine lv_iload hx hb dL_law_165 (lv_at hl 5 rfl) ?_
      refine lv_iload_n hx hb dL_law_167 rfl (lv_at hl 3 rfl) ?_
      refine lv_icmp_ge (tgt := 307) hx hb dL_law_168 (by decide) (fun c1 => ?_) (fun c1 => ?_)
      · have c1f : 12 + w0 % 21 ≤ k := (nI_leI (a := 12 + w0 % 21) (b := k) (by omega) (by omega)).mp c1
        refine lv_iload hx hb dL_law_307 (lv_at hl 4 rfl) ?_
        exact va_forget (fun q hq => hS.2.2 q hq) (W.widen (k := 600130) (n := 7301080) (by omega) (by omega) (lw_ret hx hb hr hlocks dL_law_309))
      · have c1f : ¬ (12 + w0 % 21) ≤ k := fun z => c1 ((nI_leI (a := 12 + w0 % 21) (b := k) (by omega) (by omega)).mpr z)
        obtain ⟨w, hw, ew⟩ := cv_nat L xs (2 + k)
        refine lv_iload hx hb dL_law_171 (lv_at hl 4 rfl) ?_
        refine lv_if_eq (tgt := 307) hx hb dL_law_173 (by decide) (fun c2 => absurd c2 (by decide)) (fun _ => ?_)
        refine lv_aload_n hx hb dL_law_176 rfl (lv_at hl 0 rfl) ?_
        refine lv_iconst (v := 2) hx hb dL_law_177 (by decide) ?_
        refine lv_iload hx hb dL_law_178 (lv_at hl 5 rfl) ?_
        refine iadd_n (a := 2) (b := k) hx hb dL_law_180 ?_
        refine cl_pi (rC (As := [.ref sc, .int (nI (2 + k))]) (rest := []) ⟨hx, hb, hml, hown, hts⟩ (c_cell_n l sc L xs (2 + k) w (by omega) hL ew) (va_cwS 2 hts gL_law_L_cell rfl rfl rfl (by decide +kernel) ⟨(Nat.le_of_ble_eq_true rfl), (Nat.le_of_ble_eq_true rfl)⟩) (hX.kept (hS.2.1 sc hsc (fun z => Nat.not_le.mpr hsc z))) (Nat.lt_of_lt_of_le hsc hS.1) rfl hl.1 (Nat.le_of_ble_eq_true rfl) dL_law_181 ⟨(by show 400 + 3000 * k + 0 ≤ 600130; omega), (by show 16000 + 18000 * k + 0 ≤ 7301080; omega)⟩) ?_
        refine lv_istore (lv' := [(7, .int (nI w)), (0, .ref sc), (1, .ref b), (2, .ref (b + 170)), (3, .int (nI (12 + w0 % 21))), (5, .int 1), (6, .int (nI k))]) hx hb dL_law_184 hl (by decide) rfl (fun ls hl => ?_)
        refine lv_aload_n hx hb dL_law_186 rfl (lv_at hl 2 rfl) ?_
        refine lv_iload hx hb dL_law_187 (lv_at hl 0 rfl) ?_
        refine cl_ci (rSP (A := blk b (b + 170)) (As := [.ref b, .int (nI w)]) (rest := []) ⟨hx, hb, hml, hown, hts⟩ (c_L_act l G b X M w hst rX cX hw) (va_cwS 2 hts gL_law_L_act rfl rfl rfl (by decide +kernel) ⟨(Nat.le_of_ble_eq_true rfl), (Nat.le_of_ble_eq_true rfl)⟩) hP hO (thr_at hTh hS (fun q h => Nat.le_trans hb0 h.1)) hN rfl hl.1 (Nat.le_of_ble_eq_true rfl) dL_law_189 ⟨(by show 400 + 3000 * k + 2 ≤ 600130; omega), (by show 16000 + 18000 * k + 12 ≤ 7301080; omega)⟩) hS (fun q h => Nat.le_trans hb0 h.1) (fun H locs hP9 hz hk hS => ?_)
        have hQ := cb_far hQ hk (Or.inl hd)
        obtain ⟨X5, hP, rx5, cx5⟩ := hP9
        refine lv_istore (lv' := [(8, .int ((fact M w).1)), (7, .int (nI w)), (0, .ref sc), (1, .ref b), (2, .ref (b + 170)), (3, .int (nI (12 + w0 % 21))), (5, .int 1), (6, .int (nI k))]) hx hb dL_law_192 hl (by decide) rfl (fun ls hl => ?_)
        refine lv_aload_n hx hb dL_law_194 rfl (lv_at hl 4 rfl) ?_
        refine lv_iload hx hb dL_law_195 (lv_at hl 1 rfl) ?_
        refine lv_ldc (v := (100000)) hx hb hown (hts (.constant RL 198 (100000)) (by decide +kernel)) dL_law_197 ?_
        refine irem_n (a := w) (b := 100000) hx hb ⟨by omega, by decide, by decide⟩ dL_law_199 ?_
        refine cl_ci (rSP (A := blk (b + 170) ((b + 170) + 170)) (As := [.ref (b + 170), .int (nI (w % 100000))]) (rest := []) ⟨hx, hb, hml, hown, hts⟩ (c_L_refuses l G (b + 170) Y M (w % 100000) hst rY cY (by omega)) (va_cwS 2 hts gL_law_L_refuses rfl rfl rfl (by decide +kernel) ⟨(Nat.le_of_ble_eq_true rfl), (Nat.le_of_ble_eq_true rfl)⟩) hQ hO (thr_at hTh hS (fun q h => Nat.le_trans (Nat.le_trans hb0 (Nat.le_add_right b 170)) h.1)) hN rfl hl.1 (Nat.le_of_ble_eq_true rfl) dL_law_200 ⟨(by show 400 + 3000 * k + 2 + 50 ≤ 600130; omega), (by show 16000 + 18000 * k + 12 + 300 ≤ 7301080; omega)⟩) hS (fun q h => Nat.le_trans (Nat.le_trans hb0 (Nat.le_add_right b 170)) h.1) (fun H locs hP9 hz hk hS => ?_)
        have hP := cb_far hP hk (Or.inr hd)
        have hQ := hP9
        refine lv_if_eq (tgt := 298) hx hb dL_law_203 (by decide) (fun c3 => absurd c3 (by decide)) (fun _ => ?_)
        refine lv_aload_n hx hb dL_law_206 rfl (lv_at hl 4 rfl) ?_
        refine lv_iload hx hb dL_law_207 (lv_at hl 1 rfl) ?_
        refine cl_ci (rSP (A := blk (b + 170) ((b + 170) + 170)) (As := [.ref (b + 170), .int (nI w)]) (rest := []) ⟨hx, hb, hml, hown, hts⟩ (c_L_act l G (b + 170) Y M w hst rY cY hw) (va_cwS 2 hts gL_law_L_act rfl rfl rfl (by decide +kernel) ⟨(Nat.le_of_ble_eq_true rfl), (Nat.le_of_ble_eq_true rfl)⟩) hQ hO (thr_at hTh hS (fun q h => Nat.le_trans (Nat.le_trans hb0 (Nat.le_add_right b 170)) h.1)) hN rfl hl.1 (Nat.le_of_ble_eq_true rfl) dL_law_209 ⟨(by show 400 + 3000 * k + 2 + 50 + 2 ≤ 600130; omega), (by show 16000 + 18000 * k + 12 + 300 + 12 ≤ 7301080; omega)⟩) hS (fun q h => Nat.le_trans (Nat.le_trans hb0 (Nat.le_add_right b 170)) h.1) (fun H locs hP9 hz hk hS => ?_)
        have hP := cb_far hP hk (Or.inr hd)
        obtain ⟨Y5, hQ, ry5, cy5⟩ := hP9
        refine lv_iload hx hb dL_law_212 (lv_at hl 0 rfl) ?_
        refine lv_icmp_ne (tgt := 298) hx hb dL_law_214 (by decide) (fun c4 => absurd rfl c4) (fun _ => ?_)
        refine lv_aload_n hx hb dL_law_217 rfl (lv_at hl 4 rfl) ?_
        refine lv_iload hx hb dL_law_218 (lv_at hl 1 rfl) ?_
        refine lv_sipush (v := 1000) hx hb dL_law_220 (by decide) ?_
        refine irem_n (a := w) (b := 1000) hx hb ⟨by omega, by decide, by decide⟩ dL_law_223 ?_
        refine cl_ci (rSP (A := blk (b + 170) ((b + 170) + 170)) (As := [.ref (b + 170), .int (nI (w % 1000))]) (rest := []) ⟨hx, hb, hml, hown, hts⟩ (c_L_refuses l G (b + 170) Y5 ((fact M w).2) (w % 1000) hst ry5 cy5 (by omega)) (va_cwS 2 hts gL_law_L_refuses rfl rfl rfl (by decide +kernel) ⟨(Nat.le_of_ble_eq_true rfl), (Nat.le_of_ble_eq_true rfl)⟩) hQ hO (thr_at hTh hS (fun q h => Nat.le_trans (Nat.le_trans hb0 (Nat.le_add_right b 170)) h.1)) hN rfl hl.1 (Nat.le_of_ble_eq_true rfl) dL_law_224 ⟨(by show 400 + 3000 * k + 2 + 50 + 2 + 50 ≤ 600130; omega), (by show 16000 + 18000 * k + 12 + 300 + 12 + 300 ≤ 7301080; omega)⟩) hS (fun q h => Nat.le_trans (Nat.le_trans hb0 (Nat.le_add_right b 170)) h.1) (fun H locs hP9 hz hk hS => ?_)
        have hP := cb_far hP hk (Or.inr hd)
        have hQ := hP9
        refine lv_if_eq (tgt := 298) hx hb dL_law_227 (by decide) (fun c5 => absurd c5 (by decide)) (fun _ => ?_)
        refine lv_aload_n hx hb dL_law_230 rfl (lv_at hl 3 rfl) ?_
        refine lv_aload_n hx hb dL_law_231 rfl (lv_at hl 4 rfl) ?_
        refine lv_iload hx hb dL_law_232 (lv_at hl 1 rfl) ?_
        refine lv_sipush (v := 5000) hx hb dL_law_234 (by decide) ?_
        refine irem_n (a := w) (b := 5000) hx hb ⟨by omega, by decide, by decide⟩ dL_law_237 ?_
        refine cl_ci (rSP (A := (fun q => blk b (b + 170) q ∨ blk (b + 170) (b + 170 + 170) q)) (As := [.ref b, .ref (b + 170), .int (nI (w % 5000))]) (rest := []) ⟨hx, hb, hml, hown, hts⟩ (c_L_alike l G b (b + 170) hd X5 Y5 ((fact M w).2) (w % 5000) hst rx5 ry5 (by omega)) (va_cwS 3 hts gL_law_L_alike rfl rfl rfl (by decide +kernel) ⟨(Nat.le_of_ble_eq_true rfl), (Nat.le_of_ble_eq_true rfl)⟩) ⟨hP, hQ⟩ hO (thr_at hTh hS (fun q h => h.elim (fun h => Nat.le_trans hb0 h.1) (fun h => Nat.le_trans (Nat.le_trans hb0 (Nat.le_add_right b 170)) h.1))) hN rfl hl.1 (Nat.le_of_ble_eq_true rfl) dL_law_238 ⟨(by show 400 + 3000 * k + 2 + 50 + 2 + 50 + 644 ≤ 600130; omega), (by show 16000 + 18000 * k + 12 + 300 + 12 + 300 + 3864 ≤ 7301080; omega)⟩) hS (fun q h => h.elim (fun h => Nat.le_trans hb0 h.1) (fun h => Nat.le_trans (Nat.le_trans hb0 (Nat.le_add_right b 170)) h.1)) (fun H locs hP9 hz hk hS => ?_)
        obtain ⟨T1, T2, hP, hQ⟩ := hP9
        refine lv_if_eq (tgt := 298) hx hb dL_law_241 (by decide) (fun c6 => absurd c6 (by decide)) (fun _ => ?_)
        refine lv_iload hx hb dL_law_244 (lv_at hl 7 rfl) ?_
        refine lv_iconst (v := 2) hx hb dL_law_246 (by decide) ?_
        refine irem_n (a := k) (b := 2) hx hb ⟨by omega, by decide, by decide⟩ dL_law_247 ?_
        refine lv_if_ne (tgt := 261) hx hb dL_law_248 (by decide) (fun c7 => ?_) (fun c7 => ?_)
        · have c7f : ¬ (k % 2 : Nat) = 0 := fun z => c7 (congrArg nI z)
          refine lv_aload_n hx hb dL_law_261 rfl (lv_at hl 4 rfl) ?_
          refine cl_ci (rSP (A := blk (b + 170) ((b + 170) + 170)) (As := [.ref (b + 170)]) (rest := []) ⟨hx, hb, hml, hown, hts⟩ (c_L_holds l G (b + 170) (yR Y5 T2) ((fact M w).2) hst (ry5.yR T2)) (va_cwS 1 hts gL_law_L_holds rfl rfl rfl (by decide +kernel) ⟨(Nat.le_of_ble_eq_true rfl), (Nat.le_of_ble_eq_true rfl)⟩) hQ hO (thr_at hTh hS (fun q h => Nat.le_trans (Nat.le_trans hb0 (Nat.le_add_right b 170)) h.1)) hN rfl hl.1 (Nat.le_of_ble_eq_true rfl) dL_law_262 ⟨(by show 400 + 3000 * k + 2 + 50 + 2 + 50 + 644 + 2000 ≤ 600130; omega), (by show 16000 + 18000 * k + 12 + 300 + 12 + 300 + 3864 + 12000 ≤ 7301080; omega)⟩) hS (fun q h => Nat.le_trans (Nat.le_trans hb0 (Nat.le_add_right b 170)) h.1) (fun H locs hP9 hz hk hS => ?_)
          have hP := cb_far hP hk (Or.inr hd)
          obtain ⟨T3, hQ⟩ := hP9
          refine lv_if_eq (tgt := 298) hx hb dL_law_265 (by decide) (fun c8 => absurd c8 (by decide)) (fun _ => ?_)
          refine lv_aload_n hx hb dL_law_268 rfl (lv_at hl 3 rfl) ?_
          refine lv_aload_n hx hb dL_law_269 rfl (lv_at hl 4 rfl) ?_
          refine lv_iload hx hb dL_law_270 (lv_at hl 1 rfl) ?_
          refine lv_bipush (v := 7) hx hb dL_law_272 (by decide) ?_
          refine idiv_n (a := w) (b := 7) hx hb ⟨by omega, by decide, by decide⟩ dL_law_274 ?_
          refine cl_ci (rSP (A := (fun q => blk b (b + 170) q ∨ blk (b + 170) (b + 170 + 170) q)) (As := [.ref b, .ref (b + 170), .int (nI (w / 7))]) (rest := []) ⟨hx, hb, hml, hown, hts⟩ (c_L_comes l G b (b + 170) hd (yR X5 T1) (yR (yR Y5 T2) T3) ((fact M w).2) (w / 7) hst (rx5.yR T1) ((ry5.yR T2).yR T3) (cx5.yR T1) ((cy5.yR T2).yR T3) (by omega)) (va_cwS 3 hts gL_law_L_comes rfl rfl rfl (by decide +kernel) ⟨(Nat.le_of_ble_eq_true rfl), (Nat.le_of_ble_eq_true rfl)⟩) ⟨hP, hQ⟩ hO (thr_at hTh hS (fun q h => h.elim (fun h => Nat.le_trans hb0 h.1) (fun h => Nat.le_trans (Nat.le_trans hb0 (Nat.le_add_right b 170)) h.1))) hN rfl hl.1 (Nat.le_of_ble_eq_true rfl) dL_law_275 ⟨(by show 400 + 3000 * k + 2 + 50 + 2 + 50 + 644 + 2000 + 45 ≤ 600130; omega), (by show 16000 + 18000 * k + 12 + 300 + 12 + 300 + 3864 + 12000 + 270 ≤ 7301080; omega)⟩) hS (fun q h => h.elim (fun h => Nat.le_trans hb0 h.1) (fun h => Nat.le_trans (Nat.le_trans hb0 (Nat.le_add_right b 170)) h.1)) (fun H locs hP9 hz hk hS => ?_)
          obtain ⟨X6, Y6, M6, hP, hQ, rx6, ry6, cx6, cy6⟩ := hP9
          refine lv_if_eq (tgt := 298) hx hb dL_law_278 (by decide) (fun c9 => absurd c9 (by decide)) (fun _ => ?_)
          refine lv_aload_n hx hb dL_law_281 rfl (lv_at hl 3 rfl) ?_
          refine lv_aload_n hx hb dL_law_282 rfl (lv_at hl 4 rfl) ?_
          refine lv_iload hx hb dL_law_283 (lv_at hl 1 rfl) ?_
          refine lv_bipush (v := 11) hx hb dL_law_285 (by decide) ?_
          refine idiv_n (a := w) (b := 11) hx hb ⟨by omega, by decide, by decide⟩ dL_law_287 ?_
          refine cl_ci (rSP (A := (fun q => blk b (b + 170) q ∨ blk (b + 170) (b + 170 + 170) q)) (As := [.ref b, .ref (b + 170), .int (nI (w / 11))]) (rest := []) ⟨hx, hb, hml, hown, hts⟩ (c_L_moves l G b (b + 170) hd X6 Y6 M6 (w / 11) hst rx6 ry6 cx6 cy6 (by omega)) (va_cwS 3 hts gL_law_L_moves rfl rfl rfl (by decide +kernel) ⟨(Nat.le_of_ble_eq_true rfl), (Nat.le_of_ble_eq_true rfl)⟩) ⟨hP, hQ⟩ hO (thr_at hTh hS (fun q h => h.elim (fun h => Nat.le_trans hb0 h.1) (fun h => Nat.le_trans (Nat.le_trans hb0 (Nat.le_add_right b 170)) h.1))) hN rfl hl.1 (Nat.le_of_ble_eq_true rfl) dL_law_288 ⟨(by show 400 + 3000 * k + 2 + 50 + 2 + 50 + 644 + 2000 + 45 + 200 ≤ 600130; omega), (by show 16000 + 18000 * k + 12 + 300 + 12 + 300 + 3864 + 12000 + 270 + 1200 ≤ 7301080; omega)⟩) hS (fun q h => h.elim (fun h => Nat.le_trans hb0 h.1) (fun h => Nat.le_trans (Nat.le_trans hb0 (Nat.le_add_right b 170)) h.1)) (fun H locs hP9 hz hk hS => ?_)
          obtain ⟨X7, Y7, M7, hP, hQ, rx7, ry7, cx7, cy7⟩ := hP9
          refine lv_if_eq (tgt := 298) hx hb dL_law_291 (by decide) (fun c10 => absurd c10 (by decide)) (fun _ => ?_)
          refine lv_iconst (v := 1) hx hb dL_law_294 (by decide) ?_
          refine lv_goto (tgt := 299) hx hb dL_law_295 (by decide) ?_
          refine lv_istore (lv' := [(5, .int 1), (8, .int ((fact M w).1)), (7, .int (nI w)), (0, .ref sc), (1, .ref b), (2, .ref (b + 170)), (3, .int (nI (12 + w0 % 21))), (6, .int (nI k))]) hx hb dL_law_299 hl (by decide) rfl (fun ls hl => ?_)
          refine lv_iinc (v := nI (k + 1)) (lv' := [(6, .int (nI (k + 1))), (5, .int 1), (8, .int ((fact M w).1)), (7, .int (nI w)), (0, .ref sc), (1, .ref b), (2, .ref (b + 170)), (3, .int (nI (12 + w0 % 21)))]) hx hb dL_law_301 hl (k := 7) rfl (nI_1 _) (by decide) rfl (fun ls hl => ?_)
          refine lv_goto (tgt := 165) hx hb dL_law_304 (by decide) ?_
          refine W.widen (k := 400 + 3000 * (k + 1)) (n := 16000 + 18000 * (k + 1)) (by omega) (by omega) ?_
          exact ih165 (k + 1) X7 Y7 M7 (by omega) (by omega) rx7 ry7 cx7 cy7 _ _ _ hP hQ hS (lv_sub hl [4, 5, 6, 7, 1, 0] rfl)
        · have c7f : (k % 2 : Nat) = 0 := nI_inj (a := k % 2) (b := 0) (by omega) (by omega) c7
          refine lv_aload_n hx hb dL_law_251 rfl (lv_at hl 3 rfl) ?_
          refine cl_ci (rSP (A := blk b (b + 170)) (As := [.ref b]) (rest := []) ⟨hx, hb, hml, hown, hts⟩ (c_L_holds l G b (yR X5 T1) ((fact M w).2) hst (rx5.yR T1)) (va_cwS 1 hts gL_law_L_holds rfl rfl rfl (by decide +kernel) ⟨(Nat.le_of_ble_eq_true rfl), (Nat.le_of_ble_eq_true rfl)⟩) hP hO (thr_at hTh hS (fun q h => Nat.le_trans hb0 h.1)) hN rfl hl.1 (Nat.le_of_ble_eq_true rfl) dL_law_252 ⟨(by show 400 + 3000 * k + 2 + 50 + 2 + 50 + 644 + 2000 ≤ 600130; omega), (by show 16000 + 18000 * k + 12 + 300 + 12 + 300 + 3864 + 12000 ≤ 7301080; omega)⟩) hS (fun q h => Nat.le_trans hb0 h.1) (fun H locs hP9 hz hk hS => ?_)
          have hQ := cb_far hQ hk (Or.inl hd)
          obtain ⟨T3, hP⟩ := hP9
          refine lv_if_eq (tgt := 298) hx hb dL_law_255 (by decide) (fun c11 => absurd c11 (by decide)) (fun _ => ?_)
          refine lv_goto (tgt := 268) hx hb dL_law_258 (by decide) ?_
          refine lv_aload_n hx hb dL_law_268 rfl (lv_at hl 3 rfl) ?_
          refine lv_aload_n hx hb dL_law_269 rfl (lv_at hl 4 rfl) ?_
          refine lv_iload hx hb dL_law_270 (lv_at hl 1 rfl) ?_
          refine lv_bipush (v := 7) hx hb dL_law_272 (by decide) ?_
          refine idiv_n (a := w) (b := 7) hx hb ⟨by omega, by decide, by decide⟩ dL_law_274 ?_
          refine cl_ci (rSP (A := (fun q => blk b (b + 170) q ∨ blk (b + 170) (b + 170 + 170) q)) (As := [.ref b, .ref (b + 170), .int (nI (w / 7))]) (rest := []) ⟨hx, hb, hml, hown, hts⟩ (c_L_comes l G b (b + 170) hd (yR (yR X5 T1) T3) (yR Y5 T2) ((fact M w).2) (w / 7) hst ((rx5.yR T1).yR T3) (ry5.yR T2) ((cx5.yR T1).yR T3) (cy5.yR T2) (by omega)) (va_cwS 3 hts gL_law_L_comes rfl rfl rfl (by decide +kernel) ⟨(Nat.le_of_ble_eq_true rfl), (Nat.le_of_ble_eq_true rfl)⟩) ⟨hP, hQ⟩ hO (thr_at hTh hS (fun q h => h.elim (fun h => Nat.le_trans hb0 h.1) (fun h => Nat.le_trans (Nat.le_trans hb0 (Nat.le_add_right b 170)) h.1))) hN rfl hl.1 (Nat.le_of_ble_eq_true rfl) dL_law_275 ⟨(by show 400 + 3000 * k + 2 + 50 + 2 + 50 + 644 + 2000 + 45 ≤ 600130; omega), (by show 16000 + 18000 * k + 12 + 300 + 12 + 300 + 3864 + 12000 + 270 ≤ 7301080; omega)⟩) hS (fun q h => h.elim (fun h => Nat.le_trans hb0 h.1) (fun h => Nat.le_trans (Nat.le_trans hb0 (Nat.le_add_right b 170)) h.1)) (fun H locs hP9 hz hk hS => ?_)
          obtain ⟨X6, Y6, M6, hP, hQ, rx6, ry6, cx6, cy6⟩ := hP9
          refine lv_if_eq (tgt := 298) hx hb dL_law_278 (by decide) (fun c12 => absurd c12 (by decide)) (fun _ => ?_)
          refine lv_aload_n hx hb dL_law_281 rfl (lv_at hl 3 rfl) ?_
          refine lv_aload_n hx hb dL_law_282 rfl (lv_at hl 4 rfl) ?_
          refine lv_iload hx hb dL_law_283 (lv_at hl 1 rfl) ?_
          refine lv_bipush (v := 11) hx hb dL_law_285 (by decide) ?_
          refine idiv_n (a := w) (b := 11) hx hb ⟨by omega, by decide, by decide⟩ dL_law_287 ?_
          refine cl_ci (rSP (A := (fun q => blk b (b + 170) q ∨ blk (b + 170) (b + 170 + 170) q)) (As := [.ref b, .ref (b + 170), .int (nI (w / 11))]) (rest := []) ⟨hx, hb, hml, hown, hts⟩ (c_L_moves l G b (b + 170) hd X6 Y6 M6 (w / 11) hst rx6 ry6 cx6 cy6 (by omega)) (va_cwS 3 hts gL_law_L_moves rfl rfl rfl (by decide +kernel) ⟨(Nat.le_of_ble_eq_true rfl), (Nat.le_of_ble_eq_true rfl)⟩) ⟨hP, hQ⟩ hO (thr_at hTh hS (fun q h => h.elim (fun h => Nat.le_trans hb0 h.1) (fun h => Nat.le_trans (Nat.le_trans hb0 (Nat.le_add_right b 170)) h.1))) hN rfl hl.1 (Nat.le_of_ble_eq_true rfl) dL_law_288 ⟨(by show 400 + 3000 * k + 2 + 50 + 2 + 50 + 644 + 2000 + 45 + 200 ≤ 600130; omega), (by show 16000 + 18000 * k + 12 + 300 + 12 + 300 + 3864 + 12000 + 270 + 1200 ≤ 7301080; omega)⟩) hS (fun q h => h.elim (fun h => Nat.le_trans hb0 h.1) (fun h => Nat.le_trans (Nat.le_trans hb0 (Nat.le_add_right b 170)) h.1)) (fun H locs hP9 hz hk hS => ?_)
          obtain ⟨X7, Y7, M7, hP, hQ, rx7, ry7, cx7, cy7⟩ := hP9
          refine lv_if_eq (tgt := 298) hx hb dL_law_291 (by decide) (fun c13 => absurd c13 (by decide)) (fun _ => ?_)
          refine lv_iconst (v := 1) hx hb dL_law_294 (by decide) ?_
          refine lv_goto (tgt := 299) hx hb dL_law_295 (by decide) ?_
          refine lv_istore (lv' := [(5, .int 1), (8, .int ((fact M w).1)), (7, .int (nI w)), (0, .ref sc), (1, .ref b), (2, .ref (b + 170)), (3, .int (nI (12 + w0 % 21))), (6, .int (nI k))]) hx hb dL_law_299 hl (by decide) rfl (fun ls hl => ?_)
          refine lv_iinc (v := nI (k + 1)) (lv' := [(6, .int (nI (k + 1))), (5, .int 1), (8, .int ((fact M w).1)), (7, .int (nI w)), (0, .ref sc), (1, .ref b), (2, .ref (b + 170)), (3, .int (nI (12 + w0 % 21)))]) hx hb dL_law_301 hl (k := 7) rfl (nI_1 _) (by decide) rfl (fun ls hl => ?_)
          refine lv_goto (tgt := 165) hx hb dL_law_304 (by decide) ?_
          refine W.widen (k := 400 + 3000 * (k + 1)) (n := 16000 + 18000 * (k + 1)) (by omega) (by omega) ?_
          exact ih165 (k + 1) X7 Y7 M7 (by omega) (by omega) rx7 ry7 cx7 cy7 _ _ _ hP hQ hS (lv_sub hl [4, 5, 6, 7, 1, 0] rfl)
  refine new_n (ci := 4) (fs := [.null, .null, .null, .null, .null]) (C := RX6) (T := TX6) (N := 5) hx hb hts inlX6 tyX6 tyX6_ok hown (hts (.classLink RL 8 RX6) (by decide +kernel)) (hts (.instantiable RX6 5) (by decide +kernel)) (hts (.initialized RX6) (by decide +kernel)) hO.1 P_nil hS rfl (fun j hj => by rcases (show j = 0 ∨ j = 1 ∨ j = 2 ∨ j = 3 ∨ j = 4 by omega) with rfl | rfl | rfl | rfl | rfl <;> rfl) (Nat.le_of_ble_eq_true rfl) (Nat.le_of_ble_eq_true rfl) hz dL_law_0 (fun H hP hz hS => ?_)
  refine lv_dup hx hb dL_law_3 rfl ?_
  refine cl_cv (rI (As := []) (rest := [.ref b]) ⟨hx, hb, hml, hown, hts⟩ (c_X6_init l G b) (cwI 0 hts gL_law_X6_init rfl rfl rfl (hts (.initialized RX6) (by decide +kernel)) (hts (.methodLink RL 190 yX6_init) (by decide +kernel)) (hts (.instanceMethod yX6_init) (by decide +kernel)) rfl (by decide +kernel) ⟨(Nat.le_of_ble_eq_true rfl), (Nat.le_of_ble_eq_true rfl)⟩) ⟨hz, hP⟩ hO hAO rfl hl.1 (Nat.le_of_ble_eq_true rfl) dL_law_4 ⟨(Nat.le_of_ble_eq_true rfl), (Nat.le_of_ble_eq_true rfl)⟩) hS (fun q h => Nat.le_trans (by omega) h) (fun H locs hP1 _ hk hS => ?_)
  have hPb := cb_new hP1.2
  have hz := hP1.1
  refine lv_astore_n (lv' := [(1, .ref b), (0, .ref sc)]) hx hb dL_law_7 rfl hl (by decide) rfl (fun ls hl => ?_)
  refine new_n (h := b + 170) (ci := 4) (fs := [.null, .null, .null, .null, .null]) (ws := (((((([(b, .inr (4, [.ref (b + 1), .ref (b + 3), .ref (b + 12), .ref (b + 21), .ref (b + 149)]))] ++ txW G (b + 1) txZ) ++ stW G (b + 3) st1) ++ stW G (b + 12) st1) ++ hsW G (b + 21) (fun _ => st1, 0, 0)) ++ svW G (b + 149) (fun _ => st1, zR)))) (C := RX6) (T := TX6) (N := 5) hx hb hts inlX6 tyX6 tyX6_ok hown (hts (.classLink RL 8 RX6) (by decide +kernel)) (hts (.instantiable RX6 5) (by decide +kernel)) (hts (.initialized RX6) (by decide +kernel)) hO.1 hP1.2 hS rfl (fun j hj => by rcases (show j = 0 ∨ j = 1 ∨ j = 2 ∨ j = 3 ∨ j = 4 by omega) with rfl | rfl | rfl | rfl | rfl <;> rfl) (Nat.le_of_ble_eq_true rfl) (Nat.le_of_ble_eq_true rfl) hz dL_law_8 (fun H hP hz hS => ?_)
  have hPb := cb_new (P_app.mp hP).1
  refine lv_dup hx hb dL_law_11 rfl ?_
  refine cl_cv (rI (As := []) (rest := [.ref (b + 170)]) ⟨hx, hb, hml, hown, hts⟩ (c_X6_init l G (b + 170)) (cwI 0 hts gL_law_X6_init rfl rfl rfl (hts (.initialized RX6) (by decide +kernel)) (hts (.methodLink RL 190 yX6_init) (by decide +kernel)) (hts (.instanceMethod yX6_init) (by decide +kernel)) rfl (by decide +kernel) ⟨(Nat.le_of_ble_eq_true rfl), (Nat.le_of_ble_eq_true rfl)⟩) ⟨hz, (P_app.mp hP).2⟩ hO hAO rfl hl.1 (Nat.le_of_ble_eq_true rfl) dL_law_12 ⟨(Nat.le_of_ble_eq_true rfl), (Nat.le_of_ble_eq_true rfl)⟩) hS (fun q h => by have h9 : b + 170 ≤ q := h; show s.heap.size ≤ q; omega) (fun H locs hP1 _ hk hS => ?_)
  have hP := cb_out hPb hk (fun q h1 h2 h3 => by have h9 : b + 170 ≤ q := h3; omega)
  have hQ := cb_new hP1.2
  refine lv_astore_n (lv' := [(2, .ref (b + 170)), (1, .ref b), (0, .ref sc)]) hx hb dL_law_15 rfl hl (by decide) rfl (fun ls hl => ?_)
  refine lv_bipush (v := 12) hx hb dL_law_16 (by decide) ?_
  refine lv_aload_n hx hb dL_law_18 rfl (lv_at hl 2 rfl) ?_
  refine lv_iconst (v := 0) hx hb dL_law_19 (by decide) ?_
  refine cl_pi (rC (As := [.ref sc, .int 0]) (rest := [.int 12]) ⟨hx, hb, hml, hown, hts⟩ (c_cell_n l sc L xs 0 w0 (by omega) hL ew0) (va_cwS 2 hts gL_law_L_cell rfl rfl rfl (by decide +kernel) ⟨(Nat.le_of_ble_eq_true rfl), (Nat.le_of_ble_eq_true rfl)⟩) (hX.kept (hS.2.1 sc hsc (fun z => Nat.not_le.mpr hsc z))) (Nat.lt_of_lt_of_le hsc hS.1) rfl hl.1 (Nat.le_of_ble_eq_true rfl) dL_law_20 ⟨(Nat.le_of_ble_eq_true rfl), (Nat.le_of_ble_eq_true rfl)⟩) ?_
  refine lv_bipush (v := 21) hx hb dL_law_23 (by decide) ?_
  refine irem_n (a := w0) (b := 21) hx hb ⟨by omega, by decide, by decide⟩ dL_law_25 ?_
  refine iadd_n (a := 12) (b := w0 % 21) hx hb dL_law_26 ?_
  refine lv_istore_n (lv' := [(3, .int (nI (12 + (w0 % 21)))), (2, .ref (b + 170)), (1, .ref b), (0, .ref sc)]) hx hb dL_law_27 rfl hl (by decide) rfl (fun ls hl => ?_)
  refine lv_aload_n hx hb dL_law_28 rfl (lv_at hl 3 rfl) ?_
  refine lv_iconst (v := 1) hx hb dL_law_29 (by decide) ?_
  refine cl_pi (rC (As := [.ref sc, .int 1]) (rest := []) ⟨hx, hb, hml, hown, hts⟩ (c_cell_n l sc L xs 1 w1 (by omega) hL ew1) (va_cwS 2 hts gL_law_L_cell rfl rfl rfl (by decide +kernel) ⟨(Nat.le_of_ble_eq_true rfl), (Nat.le_of_ble_eq_true rfl)⟩) (hX.kept (hS.2.1 sc hsc (fun z => Nat.not_le.mpr hsc z))) (Nat.lt_of_lt_of_le hsc hS.1) rfl hl.1 (Nat.le_of_ble_eq_true rfl) dL_law_30 ⟨(Nat.le_of_ble_eq_true rfl), (Nat.le_of_ble_eq_true rfl)⟩) ?_
  refine lv_istore (lv' := [(4, .int (nI w1)), (3, .int (nI (12 + (w0 % 21)))), (2, .ref (b + 170)), (1, .ref b), (0, .ref sc)]) hx hb dL_law_33 hl (by decide) rfl (fun ls hl => ?_)
  refine lv_aload_n hx hb dL_law_35 rfl (lv_at hl 3 rfl) ?_
  refine lv_bipush (v := 7) hx hb dL_law_36 (by decide) ?_
  refine lv_iconst (v := 2) hx hb dL_law_38 (by decide) ?_
  refine lv_iload hx hb dL_law_39 (lv_at hl 0 rfl) ?_
  refine lv_bipush (v := 7) hx hb dL_law_41 (by decide) ?_
  refine irem_n (a := w1) (b := 7) hx hb ⟨by omega, by decide, by decide⟩ dL_law_43 ?_
  refine iadd_n (a := 2) (b := w1 % 7) hx hb dL_law_44 ?_
  refine lv_iconst (v := 1) hx hb dL_law_45 (by decide) ?_
  refine lv_iload hx hb dL_law_46 (lv_at hl 0 rfl) ?_
  refine lv_bipush (v := 7) hx hb dL_law_48 (by decide) ?_
  refine idiv_n (a := w1) (b := 7) hx hb ⟨by omega, by decide, by decide⟩ dL_law_50 ?_
  refine lv_bipush (v := 99) hx hb dL_law_51 (by decide) ?_
  refine irem_n (a := w1 / 7) (b := 99) hx hb ⟨by omega, by decide, by decide⟩ dL_law_53 ?_
  refine iadd_n (a := 1) (b := (w1 / 7) % 99) hx hb dL_law_54 ?_
  refine lv_iconst (v := 0) hx hb dL_law_55 (by decide) ?_
  refine cl_o2 (rSP (A := blk b (b + 170)) (As := [.ref b, .int 7, .int (nI (2 + (w1 % 7))), .int (nI (1 + ((w1 / 7) % 99))), .int 0]) (rest := []) ⟨hx, hb, hml, hown, hts⟩ (c_call_7 l G b cx1 (nI (2 + (w1 % 7))) (nI (1 + ((w1 / 7) % 99))) 0 0 X1 hst (o_start).ho (o_start).hk e1) (va_cwS 5 hts gL_law_L_call rfl rfl rfl (by decide +kernel) ⟨(Nat.le_of_ble_eq_true rfl), (Nat.le_of_ble_eq_true rfl)⟩) hP hO (thr_at hTh hS (fun q h => Nat.le_trans hb0 h.1)) hN rfl hl.1 (Nat.le_of_ble_eq_true rfl) dL_law_56 ⟨(Nat.le_of_ble_eq_true rfl), (Nat.le_of_ble_eq_true rfl)⟩) hS (fun q h => Nat.le_trans hb0 h.1) hQ (Or.inl hd) (fun H locs hP hQ hS => ?_)
  refine lv_if_ne (tgt := 159) hx hb dL_law_59 (by decide) (fun c14 => absurd (by decide) c14) (fun _ => ?_)
  refine lv_aload_n hx hb dL_law_62 rfl (lv_at hl 2 rfl) ?_
  refine lv_bipush (v := 7) hx hb dL_law_63 (by decide) ?_
  refine lv_iconst (v := 2) hx hb dL_law_65 (by decide) ?_
  refine lv_iload hx hb dL_law_66 (lv_at hl 0 rfl) ?_
  refine lv_bipush (v := 7) hx hb dL_law_68 (by decide) ?_
  refine irem_n (a := w1) (b := 7) hx hb ⟨by omega, by decide, by decide⟩ dL_law_70 ?_
  refine iadd_n (a := 2) (b := w1 % 7) hx hb dL_law_71 ?_
  refine lv_iconst (v := 1) hx hb dL_law_72 (by decide) ?_
  refine lv_iload hx hb dL_law_73 (lv_at hl 0 rfl) ?_
  refine lv_bipush (v := 7) hx hb dL_law_75 (by decide) ?_
  refine idiv_n (a := w1) (b := 7) hx hb ⟨by omega, by decide, by decide⟩ dL_law_77 ?_
  refine lv_bipush (v := 99) hx hb dL_law_78 (by decide) ?_
  refine irem_n (a := w1 / 7) (b := 99) hx hb ⟨by omega, by decide, by decide⟩ dL_law_80 ?_
  refine iadd_n (a := 1) (b := (w1 / 7) % 99) hx hb dL_law_81 ?_
  refine lv_iconst (v := 0) hx hb dL_law_82 (by decide) ?_
  refine cl_o2 (rSP (A := blk (b + 170) ((b + 170) + 170)) (As := [.ref (b + 170), .int 7, .int (nI (2 + (w1 % 7))), .int (nI (1 + ((w1 / 7) % 99))), .int 0]) (rest := []) ⟨hx, hb, hml, hown, hts⟩ (c_call_7 l G (b + 170) cx1 (nI (2 + (w1 % 7))) (nI (1 + ((w1 / 7) % 99))) 0 0 X1 hst (o_start).ho (o_start).hk e1) (va_cwS 5 hts gL_law_L_call rfl rfl rfl (by decide +kernel) ⟨(Nat.le_of_ble_eq_true rfl), (Nat.le_of_ble_eq_true rfl)⟩) hQ hO (thr_at hTh hS (fun q h => Nat.le_trans (Nat.le_trans hb0 (Nat.le_add_right b 170)) h.1)) hN rfl hl.1 (Nat.le_of_ble_eq_true rfl) dL_law_83 ⟨(Nat.le_of_ble_eq_true rfl), (Nat.le_of_ble_eq_true rfl)⟩) hS (fun q h => Nat.le_trans (Nat.le_trans hb0 (Nat.le_add_right b 170)) h.1) hP (Or.inr hd) (fun H locs hQ hP hS => ?_)
  refine lv_if_ne (tgt := 159) hx hb dL_law_86 (by decide) (fun c15 => absurd (by decide) c15) (fun _ => ?_)
  refine lv_aload_n hx hb dL_law_89 rfl (lv_at hl 3 rfl) ?_
  refine lv_bipush (v := 7) hx hb dL_law_90 (by decide) ?_
  refine lv_iconst (v := 2) hx hb dL_law_92 (by decide) ?_
  refine lv_iload hx hb dL_law_93 (lv_at hl 0 rfl) ?_
  refine lv_sipush (v := 700) hx hb dL_law_95 (by decide) ?_
  refine idiv_n (a := w1) (b := 700) hx hb ⟨by omega, by decide, by decide⟩ dL_law_98 ?_
  refine lv_bipush (v := 7) hx hb dL_law_99 (by decide) ?_
  refine irem_n (a := w1 / 700) (b := 7) hx hb ⟨by omega, by decide, by decide⟩ dL_law_101 ?_
  refine iadd_n (a := 2) (b := (w1 / 700) % 7) hx hb dL_law_102 ?_
  refine lv_iconst (v := 1) hx hb dL_law_103 (by decide) ?_
  refine lv_iload hx hb dL_law_104 (lv_at hl 0 rfl) ?_
  refine lv_sipush (v := 5000) hx hb dL_law_106 (by decide) ?_
  refine idiv_n (a := w1) (b := 5000) hx hb ⟨by omega, by decide, by decide⟩ dL_law_109 ?_
  refine lv_bipush (v := 99) hx hb dL_law_110 (by decide) ?_
  refine irem_n (a := w1 / 5000) (b := 99) hx hb ⟨by omega, by decide, by decide⟩ dL_law_112 ?_
  refine iadd_n (a := 1) (b := (w1 / 5000) % 99) hx hb dL_law_113 ?_
  refine lv_iconst (v := 0) hx hb dL_law_114 (by decide) ?_
  refine cl_o2 (rSP (A := blk b (b + 170)) (As := [.ref b, .int 7, .int (nI (2 + ((w1 / 700) % 7))), .int (nI (1 + ((w1 / 5000) % 99))), .int 0]) (rest := []) ⟨hx, hb, hml, hown, hts⟩ (c_call_7 l G b X1 (nI (2 + ((w1 / 700) % 7))) (nI (1 + ((w1 / 5000) % 99))) 0 1 X2 hst (r1).ho (r1).hk e2) (va_cwS 5 hts gL_law_L_call rfl rfl rfl (by decide +kernel) ⟨(Nat.le_of_ble_eq_true rfl), (Nat.le_of_ble_eq_true rfl)⟩) hP hO (thr_at hTh hS (fun q h => Nat.le_trans hb0 h.1)) hN rfl hl.1 (Nat.le_of_ble_eq_true rfl) dL_law_115 ⟨(Nat.le_of_ble_eq_true rfl), (Nat.le_of_ble_eq_true rfl)⟩) hS (fun q h => Nat.le_trans hb0 h.1) hQ (Or.inl hd) (fun H locs hP hQ hS => ?_)
  refine lv_iconst (v := 1) hx hb dL_law_118 (by decide) ?_
  refine lv_icmp_ne (tgt := 159) hx hb dL_law_119 (by decide) (fun c16 => absurd (by decide) c16) (fun _ => ?_)
  refine lv_aload_n hx hb dL_law_122 rfl (lv_at hl 2 rfl) ?_
  refine lv_bipush (v := 7) hx hb dL_law_123 (by decide) ?_
  refine lv_iconst (v := 2) hx hb dL_law_125 (by decide) ?_
  refine lv_iload hx hb dL_law_126 (lv_at hl 0 rfl) ?_
  refine lv_sipush (v := 700) hx hb dL_law_128 (by decide) ?_
  refine idiv_n (a := w1) (b := 700) hx hb ⟨by omega, by decide, by decide⟩ dL_law_131 ?_
  refine lv_bipush (v := 7) hx hb dL_law_132 (by decide) ?_
  refine irem_n (a := w1 / 700) (b := 7) hx hb ⟨by omega, by decide, by decide⟩ dL_law_134 ?_
  refine iadd_n (a := 2) (b := (w1 / 700) % 7) hx hb dL_law_135 ?_
  refine lv_iconst (v := 1) hx hb dL_law_136 (by decide) ?_
  refine lv_iload hx hb dL_law_137 (lv_at hl 0 rfl) ?_
  refine lv_sipush (v := 5000) hx hb dL_law_139 (by decide) ?_
  refine idiv_n (a := w1) (b := 5000) hx hb ⟨by omega, by decide, by decide⟩ dL_law_142 ?_
  refine lv_bipush (v := 99) hx hb dL_law_143 (by decide) ?_
  refine irem_n (a := w1 / 5000) (b := 99) hx hb ⟨by omega, by decide, by decide⟩ dL_law_145 ?_
  refine iadd_n (a := 1) (b := (w1 / 5000) % 99) hx hb dL_law_146 ?_
  refine lv_iconst (v := 0) hx hb dL_law_147 (by decide) ?_
  refine cl_o2 (rSP (A := blk (b + 170) ((b + 170) + 170)) (As := [.ref (b + 170), .int 7, .int (nI (2 + ((w1 / 700) % 7))), .int (nI (1 + ((w1 / 5000) % 99))), .int 0]) (rest := []) ⟨hx, hb, hml, hown, hts⟩ (c_call_7 l G (b + 170) X1 (nI (2 + ((w1 / 700) % 7))) (nI (1 + ((w1 / 5000) % 99))) 0 1 X2 hst (r1).ho (r1).hk e2) (va_cwS 5 hts gL_law_L_call rfl rfl rfl (by decide +kernel) ⟨(Nat.le_of_ble_eq_true rfl), (Nat.le_of_ble_eq_true rfl)⟩) hQ hO (thr_at hTh hS (fun q h => Nat.le_trans (Nat.le_trans hb0 (Nat.le_add_right b 170)) h.1)) hN rfl hl.1 (Nat.le_of_ble_eq_true rfl) dL_law_148 ⟨(Nat.le_of_ble_eq_true rfl), (Nat.le_of_ble_eq_true rfl)⟩) hS (fun q h => Nat.le_trans (Nat.le_trans hb0 (Nat.le_add_right b 170)) h.1) hP (Or.inr hd) (fun H locs hQ hP hS => ?_)
  refine lv_iconst (v := 1) hx hb dL_law_151 (by decide) ?_
  refine lv_icmp_ne (tgt := 159) hx hb dL_law_152 (by decide) (fun c17 => absurd (by decide) c17) (fun _ => ?_)
  refine lv_iconst (v := 1) hx hb dL_law_155 (by decide) ?_
  refine lv_goto (tgt := 160) hx hb dL_law_156 (by decide) ?_
  refine lv_istore (lv' := [(5, .int 1), (4, .int (nI w1)), (3, .int (nI (12 + (w0 % 21)))), (2, .ref (b + 170)), (1, .ref b), (0, .ref sc)]) hx hb dL_law_160 hl (by decide) rfl (fun ls hl => ?_)
  refine lv_iconst (v := 0) hx hb dL_law_162 (by decide) ?_
  refine lv_istore (lv' := [(6, .int 0), (5, .int 1), (4, .int (nI w1)), (3, .int (nI (12 + (w0 % 21)))), (2, .ref (b + 170)), (1, .ref b), (0, .ref sc)]) hx hb dL_law_163 hl (by decide) rfl (fun ls hl => ?_)
  refine W.widen (k := 400 + 3000 * 0) (n := 16000 + 18000 * 0) (Nat.le_of_ble_eq_true rfl) (Nat.le_of_ble_eq_true rfl) ?_
  exact cut165 (40 + 1) 0 X2 X2 M2 (by omega) (by omega) r2 r2 ch2 ch2 _ _ _ hP hQ hS (lv_sub hl [6, 5, 4, 3, 1, 0] rfl)
