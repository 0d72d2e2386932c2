set_option maxRecDepth 100000
theorem str_at {A : Array Value} {U : State} {cur k : Nat} {tx : String} (hcur : U.vm.findClass RX6 = some cur) (h : (Cond.stringRef RX6 k tx).before A U = true) : ∃ sa : Nat, vk_R RX6 k tx sa U := by
  obtain ⟨k1, cf, i, a, -, -, -, -, -, he⟩ := Cond.stringRef_spec hcur h
  exact ⟨a, vk_R.of (A := A) h he⟩
theorem nest_in : ∀ w ∈ nestL, w ∈ lw_tbl := by decide +kernel
theorem nest_on : ∀ w ∈ nestL, w.onTables = true := by decide +kernel
theorem thr_in : ∀ w ∈ thrL, w ∈ lw_tbl := by decide +kernel
theorem thr_on : ∀ w ∈ thrL, w.onTables = true := by decide +kernel
theorem str_in : ∀ q ∈ strL, Cond.stringRef RX6 q.1 q.2 ∈ lw_tbl := by decide +kernel
theorem nc_in : ∀ q ∈ ncL, Cond.not (.castable q.1 q.2) ∈ flatC (Jvm.Cond.and given_1 narrow_1) := by decide +kernel
theorem ref_in1 : Cond.isRef (.static Bundle.tN "UNASSIGNED_STACK" Bundle.steD) ∈ flatC (Jvm.Cond.and given_1 narrow_1) := by decide +kernel
theorem ref_in2 : Cond.isRef (.static Bundle.tN "SUPPRESSED_SENTINEL" Bundle.listD) ∈ flatC (Jvm.Cond.and given_1 narrow_1) := by decide +kernel
set_option maxHeartbeats 4000000 in
theorem start_C {l : Launch} {p : Program} {s : State} {m : MethodId} {meth : Method} {c : Code} {sc L : Nat} {xs : Nat → Int32} (hflags : l.flags = flags0) (hL : L ≤ 2048) (C0 : lw_At p s m meth c sc L xs) : ∃ G, LC l G p s m meth c sc L xs := by
  obtain ⟨hx, hb, hr, hml, hown, hts, hX, hsc, hlocks, hgv⟩ := C0
  have h1 : ∀ w ∈ wsL_law, w.before #[.ref sc] s = true := fun w hw => hts w (wsL_law_in w hw)
  have hfl := flat_of_before _ hgv
  have hn9 : ∀ a : Nat, a < s.heap.size → ¬ frm s.heap.size a := fun a h z => Nat.not_le.mpr h z
  obtain ⟨d0, i0, k0⟩ := u_known (C := RX0) (T := TX0) (N := 3) (n := 3) h1 inlX0 (hts (.instantiable RX0 3) (by decide +kernel))
  obtain ⟨d1, i1, k1⟩ := u_known (C := RX1) (T := TX1) (N := 2) (n := 2) h1 inlX1 (hts (.instantiable RX1 2) (by decide +kernel))
  obtain ⟨d4, i4, k4⟩ := u_known (C := RX4) (T := TX4) (N := 14) (n := 14) h1 inlX4 (hts (.instantiable RX4 14) (by decide +kernel))
  obtain ⟨d5, i5, k5⟩ := u_known (C := RX5) (T := TX5) (N := 2) (n := 2) h1 inlX5 (hts (.instantiable RX5 2) (by decide +kernel))
  obtain ⟨d6, i6, k6⟩ := u_known (C := RX6) (T := TX6) (N := 5) (n := 5) h1 inlX6 (hts (.instantiable RX6 5) (by decide +kernel))
  obtain ⟨d7, i7, k7⟩ := u_known (C := RX7) (T := TX7) (N := 12) (n := 12) h1 inlX7 (hts (.instantiable RX7 12) (by decide +kernel))
  obtain ⟨e0, ka0, cp0, f0, g0, o0⟩ := Cond.arrayClass_spec (hts (.arrayClass .int) (by decide +kernel))
  obtain ⟨e1, ka1, cp1, f1, g1, o1⟩ := Cond.arrayClass_spec (hts (.arrayClass .char) (by decide +kernel))
  obtain ⟨e2, ka2, cp2, f2, g2, o2⟩ := Cond.arrayClass_spec (hts (.arrayClass .boolean) (by decide +kernel))
  obtain ⟨e4, ka4, cp4, f4, g4, o4⟩ := Cond.arrayClass_spec (hts (.arrayClass .long) (by decide +kernel))
  obtain ⟨cp3, e3, ka3, j1, -, j2, j3, j4⟩ := Cond.arrayOver_spec (hts (.arrayOver (.object RX4)) (by decide +kernel))
  refine ⟨((fun n => match n with | 0 => d0 | 1 => d1 | 2 => d4 | 3 => d5 | 4 => d6 | _ => d7, fun n => match n with | 0 => i0 | 1 => i1 | 2 => i4 | 3 => i5 | 4 => i6 | _ => i7), fun n => match n with | 0 => e0 | 1 => e1 | 2 => e2 | 3 => e3 | _ => e4), ?_⟩
  refine ⟨hx, hb, hr, hml, hown, h1, hX, hsc, hlocks, ⟨⟨fun n q hq => ?_, fun n q hq => ?_⟩, fun w hw => va_any (A := #[.ref sc]) (nest_on w hw) (hts w (nest_in w hw))⟩, ⟨fun w hw => va_any (A := #[.ref sc]) (thr_on w hw) (hts w (thr_in w hw)), vx_Zqof (hts (.laysStatic Bundle.tN "UNASSIGNED_STACK" Bundle.steD) (by decide +kernel)) (hts (.initialized Bundle.tN) (by decide +kernel)) (hfl _ ref_in1) hn9, vx_Zqof (hts (.laysStatic Bundle.tN "SUPPRESSED_SENTINEL" Bundle.listD) (by decide +kernel)) (hts (.initialized Bundle.tN) (by decide +kernel)) (hfl _ ref_in2) hn9, fun n q hq => str_at k6.2.1 (hts _ (str_in q (List.mem_of_getElem? hq)))⟩, fun q hq => va_Nc.of (hfl _ (nc_in q hq)), va_AO.of (hts (.arrayOver (.object RX4)) (by decide +kernel)), by unfold Launch.stackTraces; rw [hflags]; decide +kernel, hL⟩
  · match n, hq with
    | 0, hq => cases hq; exact k0
    | 1, hq => cases hq; exact k1
    | 2, hq => cases hq; exact k4
    | 3, hq => cases hq; exact k5
    | 4, hq => cases hq; exact k6
    | 5, hq => cases hq; exact k7
    | n + 6, hq => cases hq
  · match n, hq with
    | 0, hq => cases hq; exact ⟨fun N z => ⟨(fun k h => by cases h), ka0, g0, cp0, o0⟩, f0⟩
    | 1, hq => cases hq; exact ⟨fun N z => ⟨(fun k h => by cases h), ka1, g1, cp1, o1⟩, f1⟩
    | 2, hq => cases hq; exact ⟨fun N z => ⟨(fun k h => by cases h), ka2, g2, cp2, o2⟩, f2⟩
    | 3, hq => cases hq; exact ⟨fun N z => ⟨(fun k h => by cases h), ka3, j2, cp3, j3⟩, ⟨ka3, cp3, j2, j3, j1, j4⟩⟩
    | 4, hq => cases hq; exact ⟨fun N z => ⟨(fun k h => by cases h), ka4, g4, cp4, o4⟩, f4⟩
    | n + 5, hq => cases hq

set_option maxHeartbeats 4000000 in
theorem law_loop {l : Launch} {G : GG} {p : Program} {e : Env} {s : State} {m : MethodId} {below : List Frame} {meth : Method} {cd : Code} {sc L : Nat} {xs : Nat → Int32} (hC : LC l G p s m meth cd sc L xs) {P : Cx → Mo → Prop} (E : L27 P) {b : Nat} (hb0 : s.heap.size ≤ b) : ∀ (n k : Nat) (X : Cx) (f : Nat → Int64) (M : Mo) (H : Heap) (locs : List Loc) (cells slots : Nat) (ls : Array Slot), k ≤ L → L < k + 4 * n → 4 * cells ≤ 720 + k → 4 * slots ≤ 60000 + 6 * k → LX G b (X, f) M H → P X M → va_S (frm s.heap.size) s.heap H locs → lv_has ls 7 [(0, .ref sc), (1, .ref b), (2, .ref (b + 170)), (3, .ref (b + 178)), (4, .int (nI k))] → W p l e room_1 s m #[.ref sc] below meth cd H locs cells slots (lw_Z below #[.ref sc] s) (F0 m 23 ls []) := by
  have hC0 := hC
  obtain ⟨hx, hb, hr, hml, hown, hts, hX, hsc, hlocks, hO, hTh, hN, hAO, hst, hL⟩ := hC0
  intro n
  induction n with
  | zero =>
    intro k X f M H locs cells slots ls hkL hn
    omega
  | succ n ih =>
    intro k X f M H locs cells slots ls hkL hn hc4 hs4 hP hR hS hl
    refine lv_iload hx hb dL_law_23 (lv_at hl 4 rfl) ?_
    refine lv_aload_n hx hb dL_law_25 rfl (lv_at hl 0 rfl) ?_
    refine va_slen hx hb hX hsc (fun z => Nat.not_le.mpr hsc z) hS dL_law_26 ?_
    refine lv_iconst (v := 4) hx hb dL_law_27 (by decide) ?_
    refine lv_isub hx hb dL_law_28 ?_
    refine lv_icmp_gt (tgt := 1812) hx hb dL_law_29 (by decide) (fun c1 => ?_) (fun c1 => ?_)
    · refine lv_iconst (v := 1) hx hb dL_law_1812 (by decide) ?_
      exact va_forget (fun q hq => hS.2.2 q hq) (W.widen (k := 601024) (n := 7293034) (by omega) (by omega) (lw_ret hx hb hr hlocks dL_law_1813))
    · have hk4 := gt4 hL hkL c1
      have hnext : ∀ (S1 : Wx) (M1 : Mo) (H1 : Heap) (locs1 : List Loc) (ls1 : Array Slot) (cells1 slots1 : Nat), P S1.1 M1 → LX G b S1 M1 H1 → va_S (frm s.heap.size) s.heap H1 locs1 → lv_has ls1 7 [(0, .ref sc), (1, .ref b), (2, .ref (b + 170)), (3, .ref (b + 178)), (4, .int (nI k))] → cells1 ≤ cells + 1 → slots1 ≤ slots + 6 → W p l e room_1 s m #[.ref sc] below meth cd H1 locs1 cells1 slots1 (lw_Z below #[.ref sc] s) (F0 m 1806 ls1 []) := by
        intro S1 M1 H1 locs1 ls1 cells1 slots1 hR1 hP1 hS1 hl1 hz1 hz2
        refine lv_iinc (v := nI (k + 4)) (lv' := [(4, .int (nI (k + 4))), (0, .ref sc), (1, .ref b), (2, .ref (b + 170)), (3, .ref (b + 178))]) hx hb dL_law_1806 hl1 (k := 4) rfl (nI_add _ 4) (by decide) rfl (fun ls2 hl2 => ?_)
        refine lv_goto (tgt := 23) hx hb dL_law_1809 (by decide) ?_
        exact ih (k + 4) S1.1 S1.2 M1 H1 locs1 cells1 slots1 ls2 hk4 (by omega) (by omega) (by omega) hP1 hR1 hS1 (lv_sub hl2 [1, 2, 3, 4, 0] rfl)
      refine lv_aload_n hx hb dL_law_32 rfl (lv_at hl 0 rfl) ?_
      refine lv_iload hx hb dL_law_33 (lv_at hl 4 rfl) ?_
      refine sld_n (j := k) hx hb hX hsc hS (by omega) hL dL_law_35 ?_
      refine lv_bipush (v := 31) hx hb dL_law_36 (by decide) ?_
      refine lv_iand hx hb dL_law_38 ?_
      obtain ⟨i, hi⟩ : ∃ i : Int, (xs k &&& 31).toInt = i := ⟨_, rfl⟩
      have hcase : i < 0 ∨ 26 < i ∨ i = 0 ∨ i = 1 ∨ i = 2 ∨ i = 3 ∨ i = 4 ∨ i = 5 ∨ i = 6 ∨ i = 7 ∨ i = 8 ∨ i = 9 ∨ i = 10 ∨ i = 11 ∨ i = 12 ∨ i = 13 ∨ i = 14 ∨ i = 15 ∨ i = 16 ∨ i = 17 ∨ i = 18 ∨ i = 19 ∨ i = 20 ∨ i = 21 ∨ i = 22 ∨ i = 23 ∨ i = 24 ∨ i = 25 ∨ i = 26 := by omega
      rcases hcase with hlo | hhi | hi0 | hi0 | hi0 | hi0 | hi0 | hi0 | hi0 | hi0 | hi0 | hi0 | hi0 | hi0 | hi0 | hi0 | hi0 | hi0 | hi0 | hi0 | hi0 | hi0 | hi0 | hi0 | hi0 | hi0 | hi0 | hi0 | hi0
      · refine lv_tableOut (tgt := 1806) hx hb dL_law_39 (.inl (by rw [hi]; exact hlo)) (by decide) ?_
        exact hnext (X, f) M H locs ls cells slots hR hP hS hl (by omega) (by omega)
      · refine lv_tableOut (tgt := 1806) hx hb dL_law_39 (.inr (by rw [hi]; exact hhi)) (by decide) ?_
        exact hnext (X, f) M H locs ls cells slots hR hP hS hl (by omega) (by omega)
      · refine lv_tableIn (off := 121) (tgt := 160) hx hb dL_law_39 (by rw [hi, hi0]; decide) (by rw [hi, hi0]; decide) (by rw [hi, hi0]; decide +kernel) (by decide) ?_
        exact cs_append hC E hb0 (by omega) (by omega) hk4 hP hR hS hl hnext
      · refine lv_tableIn (off := 177) (tgt := 216) hx hb dL_law_39 (by rw [hi, hi0]; decide) (by rw [hi, hi0]; decide) (by rw [hi, hi0]; decide +kernel) (by decide) ?_
        exact cs_clearText hC E hb0 (by omega) (by omega) hk4 hP hR hS hl hnext
      · refine lv_tableIn (off := 190) (tgt := 229) hx hb dL_law_39 (by rw [hi, hi0]; decide) (by rw [hi, hi0]; decide) (by rw [hi, hi0]; decide +kernel) (by decide) ?_
        exact cs_errorPosition hC E hb0 (by omega) (by omega) hk4 hP hR hS hl hnext
      · refine lv_tableIn (off := 203) (tgt := 242) hx hb dL_law_39 (by rw [hi, hi0]; decide) (by rw [hi, hi0]; decide) (by rw [hi, hi0]; decide +kernel) (by decide) ?_
        exact cs_load hC E hb0 (by omega) (by omega) hk4 hP hR hS hl hnext
      · refine lv_tableIn (off := 247) (tgt := 286) hx hb dL_law_39 (by rw [hi, hi0]; decide) (by rw [hi, hi0]; decide) (by rw [hi, hi0]; decide +kernel) (by decide) ?_
        exact cs_about hC E hb0 (by omega) (by omega) hk4 hP hR hS hl hnext
      · refine lv_tableIn (off := 303) (tgt := 342) hx hb dL_law_39 (by rw [hi, hi0]; decide) (by rw [hi, hi0]; decide) (by rw [hi, hi0]; decide +kernel) (by decide) ?_
        exact cs_carOf hC E hb0 (by omega) (by omega) hk4 hP hR hS hl hnext
      · refine lv_tableIn (off := 371) (tgt := 410) hx hb dL_law_39 (by rw [hi, hi0]; decide) (by rw [hi, hi0]; decide) (by rw [hi, hi0]; decide +kernel) (by decide) ?_
        exact cs_at hC E hb0 (by omega) (by omega) hk4 hP hR hS hl hnext
      · refine lv_tableIn (off := 427) (tgt := 466) hx hb dL_law_39 (by rw [hi, hi0]; decide) (by rw [hi, hi0]; decide) (by rw [hi, hi0]; decide +kernel) (by decide) ?_
        exact cs_gap hC E hb0 (by omega) (by omega) hk4 hP hR hS hl hnext
      · refine lv_tableIn (off := 495) (tgt := 534) hx hb dL_law_39 (by rw [hi, hi0]; decide) (by rw [hi, hi0]; decide) (by rw [hi, hi0]; decide +kernel) (by decide) ?_
        exact cs_setting hC E hb0 (by omega) (by omega) hk4 hP hR hS hl hnext
      · refine lv_tableIn (off := 551) (tgt := 590) hx hb dL_law_39 (by rw [hi, hi0]; decide) (by rw [hi, hi0]; decide) (by rw [hi, hi0]; decide +kernel) (by decide) ?_
        exact cs_hydrant hC E hb0 (by omega) (by omega) hk4 hP hR hS hl hnext
      · refine lv_tableIn (off := 635) (tgt := 674) hx hb dL_law_39 (by rw [hi, hi0]; decide) (by rw [hi, hi0]; decide) (by rw [hi, hi0]; decide +kernel) (by decide) ?_
        exact cs_come hC E hb0 (by omega) (by omega) hk4 hP hR hS hl hnext
      · refine lv_tableIn (off := 703) (tgt := 742) hx hb dL_law_39 (by rw [hi, hi0]; decide) (by rw [hi, hi0]; decide) (by rw [hi, hi0]; decide +kernel) (by decide) ?_
        exact cs_leave hC E hb0 (by omega) (by omega) hk4 hP hR hS hl hnext
      · refine lv_tableIn (off := 759) (tgt := 798) hx hb dL_law_39 (by rw [hi, hi0]; decide) (by rw [hi, hi0]; decide) (by rw [hi, hi0]; decide +kernel) (by decide) ?_
        exact cs_tow hC E hb0 (by omega) (by omega) hk4 hP hR hS hl hnext
      · refine lv_tableIn (off := 815) (tgt := 854) hx hb dL_law_39 (by rw [hi, hi0]; decide) (by rw [hi, hi0]; decide) (by rw [hi, hi0]; decide +kernel) (by decide) ?_
        exact cs_move hC E hb0 (by omega) (by omega) hk4 hP hR hS hl hnext
      · refine lv_tableIn (off := 883) (tgt := 922) hx hb dL_law_39 (by rw [hi, hi0]; decide) (by rw [hi, hi0]; decide) (by rw [hi, hi0]; decide +kernel) (by decide) ?_
        exact cs_minutes hC E hb0 (by omega) (by omega) hk4 hP hR hS hl hnext
      · refine lv_tableIn (off := 939) (tgt := 978) hx hb dL_law_39 (by rw [hi, hi0]; decide) (by rw [hi, hi0]; decide) (by rw [hi, hi0]; decide +kernel) (by decide) ?_
        exact cs_set hC E hb0 (by omega) (by omega) hk4 hP hR hS hl hnext
      · refine lv_tableIn (off := 1007) (tgt := 1046) hx hb dL_law_39 (by rw [hi, hi0]; decide) (by rw [hi, hi0]; decide) (by rw [hi, hi0]; decide +kernel) (by decide) ?_
        exact cs_undo hC E hb0 (by omega) (by omega) hk4 hP hR hS hl hnext
      · refine lv_tableIn (off := 1051) (tgt := 1090) hx hb dL_law_39 (by rw [hi, hi0]; decide) (by rw [hi, hi0]; decide) (by rw [hi, hi0]; decide +kernel) (by decide) ?_
        exact cs_why hC E hb0 (by omega) (by omega) hk4 hP hR hS hl hnext
      · refine lv_tableIn (off := 1107) (tgt := 1146) hx hb dL_law_39 (by rw [hi, hi0]; decide) (by rw [hi, hi0]; decide) (by rw [hi, hi0]; decide +kernel) (by decide) ?_
        exact cs_place hC E hb0 (by omega) (by omega) hk4 hP hR hS hl hnext
      · refine lv_tableIn (off := 1163) (tgt := 1202) hx hb dL_law_39 (by rw [hi, hi0]; decide) (by rw [hi, hi0]; decide) (by rw [hi, hi0]; decide +kernel) (by decide) ?_
        exact cs_fits hC E hb0 (by omega) (by omega) hk4 hP hR hS hl hnext
      · refine lv_tableIn (off := 1231) (tgt := 1270) hx hb dL_law_39 (by rw [hi, hi0]; decide) (by rw [hi, hi0]; decide) (by rw [hi, hi0]; decide +kernel) (by decide) ?_
        exact cs_gapIn hC E hb0 (by omega) (by omega) hk4 hP hR hS hl hnext
      · refine lv_tableIn (off := 1287) (tgt := 1326) hx hb dL_law_39 (by rw [hi, hi0]; decide) (by rw [hi, hi0]; decide) (by rw [hi, hi0]; decide +kernel) (by decide) ?_
        exact cs_mover hC E hb0 (by omega) (by omega) hk4 hP hR hS hl hnext
      · refine lv_tableIn (off := 1355) (tgt := 1394) hx hb dL_law_39 (by rw [hi, hi0]; decide) (by rw [hi, hi0]; decide) (by rw [hi, hi0]; decide +kernel) (by decide) ?_
        exact cs_jam hC E hb0 (by omega) (by omega) hk4 hP hR hS hl hnext
      · refine lv_tableIn (off := 1455) (tgt := 1494) hx hb dL_law_39 (by rw [hi, hi0]; decide) (by rw [hi, hi0]; decide) (by rw [hi, hi0]; decide +kernel) (by decide) ?_
        exact cs_runScript hC E hb0 (by omega) (by omega) hk4 hP hR hS hl hnext
      · refine lv_tableIn (off := 1555) (tgt := 1594) hx hb dL_law_39 (by rw [hi, hi0]; decide) (by rw [hi, hi0]; decide) (by rw [hi, hi0]; decide +kernel) (by decide) ?_
        exact cs_simulate hC E hb0 (by omega) (by omega) hk4 hP hR hS hl hnext
      · refine lv_tableIn (off := 1655) (tgt := 1694) hx hb dL_law_39 (by rw [hi, hi0]; decide) (by rw [hi, hi0]; decide) (by rw [hi, hi0]; decide +kernel) (by decide) ?_
        exact cs_save hC E hb0 (by omega) (by omega) hk4 hP hR hS hl hnext
      · refine lv_tableIn (off := 1711) (tgt := 1750) hx hb dL_law_39 (by rw [hi, hi0]; decide) (by rw [hi, hi0]; decide) (by rw [hi, hi0]; decide +kernel) (by decide) ?_
        exact cs_restore hC E hb0 (by omega) (by omega) hk4 hP hR hS hl hnext

theorem P_nil {D : va_G} {cl : List vw_C} {H : Heap} : va_P D cl [] H := fun k q h => by cases h
set_option maxHeartbeats 4000000 in
theorem law_start {P : Cx → Mo → Prop} (E : L27 P) {p : Program} {e : Env} {s : State} {m : MethodId} {below : List Frame} {meth : Method} {cd : Code} {l : Launch} (hflags : l.flags = flags0) {sc L : Nat} {xs : Nat → Int32} (hL : L ≤ 2048) (C0 : lw_At p s m meth cd sc L xs) : W p l e room_1 s m #[.ref sc] below meth cd s.heap [] 0 0 (lw_Z below #[.ref sc] s) (entryFrame m ([.ref sc] : List Value).toArray 7) := by
  obtain ⟨G, hC⟩ := start_C hflags hL C0
  have hC0 := hC
  obtain ⟨hx, hb, hr, hml, hown, hts, hX, hsc, hlocks, hO, hTh, hN, hAO, hst, -⟩ := hC0
  have hl := lv_entry ([.ref sc]) (n := 7) (Nat.le_of_ble_eq_true rfl)
  rw [lg_entry_eq]
  generalize (lg_sl ([.ref sc]) ++ List.replicate (7 - (lg_sl ([.ref sc])).length) Slot.unset).toArray = ls at hl ⊢
  have hl : lv_has ls 7 [(0, .ref sc)] := hl
  obtain ⟨b, hz⟩ : ∃ b, s.heap.size = b := ⟨_, rfl⟩
  have hS : va_S (frm s.heap.size) s.heap s.heap [] := va_S.rf
  refine new_n (ci := 4) (fs := [.null, .null, .null, .null, .null]) (C := RX6) (T := TX6) (N := 5) hx hb hts inlX6 tyX6 tyX6_ok hown (hts (.classLink RL 8 RX6) (by decide +kernel)) (hts (.instantiable RX6 5) (by decide +kernel)) (hts (.initialized RX6) (by decide +kernel)) hO.1 P_nil hS rfl (fun j hj => by rcases (show j = 0 ∨ j = 1 ∨ j = 2 ∨ j = 3 ∨ j = 4 by omega) with rfl | rfl | rfl | rfl | rfl <;> rfl) (Nat.le_of_ble_eq_true rfl) (Nat.le_of_ble_eq_true rfl) hz dL_law_0 (fun H hP hz hS => ?_)
  refine lv_dup hx hb dL_law_3 rfl ?_
  refine cl_cv (rI (As := []) (rest := [.ref b]) ⟨hx, hb, hml, hown, hts⟩ (c_X6_init l G b) (cwI 0 hts gL_law_X6_init rfl rfl rfl (hts (.initialized RX6) (by decide +kernel)) (hts (.methodLink RL 96 yX6_init) (by decide +kernel)) (hts (.instanceMethod yX6_init) (by decide +kernel)) rfl (by decide +kernel) ⟨Nat.le_of_ble_eq_true rfl, Nat.le_of_ble_eq_true rfl⟩) ⟨hz, hP⟩ hO hAO rfl hl.1 (Nat.le_of_ble_eq_true rfl) dL_law_4 ⟨Nat.le_of_ble_eq_true rfl, Nat.le_of_ble_eq_true rfl⟩) hS (fun q h => Nat.le_trans (by omega) h) (fun H locs hP1 _ hk hS => ?_)
  have hPb := cb_new hP1.2
  have hz := hP1.1
  refine lv_astore_n (lv' := [(1, .ref b), (0, .ref sc)]) hx hb dL_law_7 rfl hl (by decide) rfl (fun ls hl => ?_)
  refine new_n (h := b + 170) (ci := 5) (fs := [.int 0, .null, .int 0, .null, .null, .null, .null, .int 0, .null, .null, .int 0, .int 0]) (C := RX7) (T := TX7) (N := 12) (ws := (((((([(b, .inr (4, [.ref (b + 1), .ref (b + 3), .ref (b + 12), .ref (b + 21), .ref (b + 149)]))] ++ txW G (b + 1) txZ) ++ stW G (b + 3) st1) ++ stW G (b + 12) st1) ++ hsW G (b + 21) (fun _ => st1, 0, 0)) ++ svW G (b + 149) (fun _ => st1, zR)))) hx hb hts inlX7 tyX7 tyX7_ok hown (hts (.classLink RL 97 RX7) (by decide +kernel)) (hts (.instantiable RX7 12) (by decide +kernel)) (hts (.initialized RX7) (by decide +kernel)) hO.1 hP1.2 hS rfl (fun j hj => by rcases (show j = 0 ∨ j = 1 ∨ j = 2 ∨ j = 3 ∨ j = 4 ∨ j = 5 ∨ j = 6 ∨ j = 7 ∨ j = 8 ∨ j = 9 ∨ j = 10 ∨ j = 11 by omega) with rfl | rfl | rfl | rfl | rfl | rfl | rfl | rfl | rfl | rfl | rfl | rfl <;> rfl) (by show 0 + 1 + 169 + 1 ≤ 601024; omega) (by show 0 + 5 + 7597 + 12 ≤ 7293034; omega) hz dL_law_8 (fun H hP hz hS => ?_)
  have hPb := cb_new (P_app.mp hP).1
  refine lv_dup hx hb dL_law_11 rfl ?_
  refine cl_cv (rI (As := []) (rest := [.ref (b + 170)]) ⟨hx, hb, hml, hown, hts⟩ (c_X7_init l G (b + 170)) (cwI 0 hts gL_law_X7_init rfl rfl rfl (hts (.initialized RX7) (by decide +kernel)) (hts (.methodLink RL 99 yX7_init) (by decide +kernel)) (hts (.instanceMethod yX7_init) (by decide +kernel)) rfl (by decide +kernel) ⟨Nat.le_of_ble_eq_true rfl, Nat.le_of_ble_eq_true rfl⟩) ⟨hz, (P_app.mp hP).2⟩ hO hAO rfl hl.1 (Nat.le_of_ble_eq_true rfl) dL_law_12 ⟨by show 0 + 1 + 169 + 1 + 7 ≤ 601024; omega, by show 0 + 5 + 7597 + 12 + 6335 ≤ 7293034; omega⟩) hS (fun q h => by have h9 : b + 170 ≤ q := h; show s.heap.size ≤ q; omega) (fun H locs hP1 _ hk hS => ?_)
  have hPb := cb_out hPb hk (fun q h1 h2 h3 => by have h9 : b + 170 ≤ q := h3; omega)
  have hz := hP1.1
  refine lv_astore_n (lv' := [(2, .ref (b + 170)), (1, .ref b), (0, .ref sc)]) hx hb dL_law_15 rfl hl (by decide) rfl (fun ls hl => ?_)
  refine lv_iconst (v := 1) hx hb dL_law_16 (by decide) ?_
  refine newa_n (h := b + 178) (atype := .long) (a0 := (1, .inr (.inl (fun _ => 0)))) (ws := stW G (b + 12) (xR cx1) ++ cbR G b cx1 ++ mdW G (b + 170) md1) hx hb (hts (.arrayClass .long) (by decide +kernel)) rfl hO 4 rfl (P_app.mpr ⟨cb_fl hPb, hP1.2⟩) hS rfl (by decide) rfl (by decide) (by show 0 + 1 + 169 + 1 + 7 + 1 ≤ 601024; omega) (by show 0 + 5 + 7597 + 12 + 6335 + 1 ≤ 7293034; omega) hz dL_law_17 (fun H hP hz hS => ?_)
  have hP0 := P_app.mp (P_app.mp hP).1
  refine lv_astore_n (lv' := [(3, .ref (b + 178)), (2, .ref (b + 170)), (1, .ref b), (0, .ref sc)]) hx hb dL_law_19 rfl hl (by decide) rfl (fun ls hl => ?_)
  refine lv_iconst (v := 0) hx hb dL_law_20 (by decide) ?_
  refine lv_istore (lv' := [(4, .int (nI 0)), (3, .ref (b + 178)), (2, .ref (b + 170)), (1, .ref b), (0, .ref sc)]) hx hb dL_law_21 hl (by decide) rfl (fun ls hl => ?_)
  exact law_loop hC E (by omega) 514 0 cx1 (fun _ => 0) md1 H _ _ _ ls (Nat.zero_le _) (by omega) (by show 4 * (0 + 1 + 169 + 1 + 7 + 1) ≤ 720 + 0; omega) (by show 4 * (0 + 5 + 7597 + 12 + 6335 + 1) ≤ 60000 + 6 * 0; omega) ⟨⟨cb_un (v := xR cx1) hP0.1, (P_app.mp hP).2⟩, hP0.2⟩ E.start hS (lv_sub hl [4, 3, 2, 1, 0] rfl)
