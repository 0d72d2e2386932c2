set_option maxHeartbeats 4000000 in
set_option maxRecDepth 100000 in
theorem c_X6_streetOf (l : Launch) (G : GG) (a a0 n : Nat) (i : Nat) (hi : i < n) (hn : n < 2 ^ 31) : Met l yX6_streetOf wsX6_streetOf ({ frames := 0, cells := 0, slots := 0, locals := 0 }) (PcH G [.ref a, .int (nI i)] (va_P G.1 vwCl [(a, .inl (G.2 3, n, .inr (.inr (.inr (.inr (rk a0 n))))))])) (QP (some (.ref (a0 + 9 * i)))) 0 0 noA := by
  refine metH (cc := cX6_streetOf) (maxL := 2) (ret := (some (.object "CurbCars$Street"))) (by decide) rfl ?_
  intro p e s m below meth cd hx hb hr hml hown hts hlocks hP hO
  have hS : va_S noA s.heap s.heap [] := va_S.rf
  have hl := lv_entry ([.ref a, .int (nI i)]) (n := 2) (Nat.le_of_ble_eq_true rfl)
  rw [lg_entry_eq]
  generalize (lg_sl ([.ref a, .int (nI i)]) ++ List.replicate (2 - (lg_sl ([.ref a, .int (nI i)])).length) Slot.unset).toArray = ls at hl ⊢
  have hl : lv_has ls 2 [(0, .ref a), (1, .int (nI i))] := hl
  refine lv_aload_n hx hb dX6_streetOf_0 rfl (lv_at hl 0 rfl) ?_
  refine lv_ifnull hx hb dX6_streetOf_1 ?_
  refine lv_iload_n hx hb dX6_streetOf_4 rfl (lv_at hl 1 rfl) ?_
  refine lv_if_lt (tgt := 14) hx hb dX6_streetOf_5 (by decide) (fun c1 => absurd c1 (nI_pos (by omega))) (fun _ => ?_)
  refine lv_iload_n hx hb dX6_streetOf_8 rfl (lv_at hl 1 rfl) ?_
  refine lv_aload_n hx hb dX6_streetOf_9 rfl (lv_at hl 0 rfl) ?_
  refine va_alen (ty := .object "CurbCars$Street") (v := nI n) hx hb hO.1 hP 0 3 rfl rfl rfl dX6_streetOf_10 ?_
  refine lv_icmp_lt (tgt := 16) hx hb dX6_streetOf_11 (by decide) (fun _ => ?_) (fun c2 => absurd (nI_lt hi (by omega)) c2)
  refine lv_aload_n hx hb dX6_streetOf_16 rfl (lv_at hl 0 rfl) ?_
  refine lv_iload_n hx hb dX6_streetOf_17 rfl (lv_at hl 1 rfl) ?_
  refine va_aldq hx hb hO.1 hP 0 3 rfl rfl (vp_in_nI hi (by omega)) dX6_streetOf_18 ?_
  rw [nI_clamp (by omega), show va_rf (rk a0 n i) = .ref (a0 + 9 * i) by rw [rk, if_pos hi]; rfl]
  exact W.aret hx hb hr (.inl ⟨_, rfl⟩) (.inr ⟨_, rfl⟩) (fun t ht hW => ⟨rfl, ht⟩) hS.2.2 dX6_streetOf_19
def uO (D : Hi) (v : Nat) : Hi := (qF D, v, qK D)
def uK (D : Hi) (v : Nat) : Hi := (qF D, qO D, v)
def uF (D : Hi) (j : Nat) (S : St) : Hi := (fun i => if i = j then S else qF D i, qO D, qK D)
def uB (D : Sl) (f : Rw) : Sl := (vF D, f)
def uW (D : Sl) (j : Nat) (S : St) : Sl := (fun i => if i = j then S else vF D i, vB D)
theorem hs_pO {G : GG} {a : Nat} {D : Hi} {v : Nat} {H : Heap} (h : va_P G.1 vwCl ((hsW G a D).set 0 (a, .inr (0, ([.ref (a + 1), .int (nI (qO D)), .int (nI (qK D))] : List Value).set 1 (.int (nI v))))) H) : va_P G.1 vwCl (hsW G a (uO D v)) H := h
theorem hs_pK {G : GG} {a : Nat} {D : Hi} {v : Nat} {H : Heap} (h : va_P G.1 vwCl ((hsW G a D).set 0 (a, .inr (0, ([.ref (a + 1), .int (nI (qO D)), .int (nI (qK D))] : List Value).set 2 (.int (nI v))))) H) : va_P G.1 vwCl (hsW G a (uK D v)) H := h
theorem sv_pB {G : GG} {a : Nat} {D : Sl} {v : Rw} {H : Heap} (h : va_P G.1 vwCl ((svW G a D).set 2 (a + 2, .inl (G.2 2, 2, .inl v))) H) : va_P G.1 vwCl (svW G a (uB D v)) H := h
/-- the history with a street beside it -/
abbrev HS : Type := Hi × St
def hH (S : HS) : Hi := S.1
def hT (S : HS) : St := S.2
def kH (S : HS) (D : Hi) : HS := (D, S.2)
def kT (S : HS) (T : St) : HS := (S.1, T)
def blkh (a n b : Nat) : Nat → Prop := fun q => blk a (a + n) q ∨ blk b (b + 9) q
abbrev Hst2 (G : GG) (a b : Nat) (S : HS) (H : Heap) : Prop := va_P G.1 vwCl (hsW G a (hH S) ++ stW G b (hT S)) H
theorem two_D2 {G : GG} {A : Nat → Prop} {a n b : Nat} {ws : va_W} {T : St} (hd : b + 9 ≤ a ∨ a + n ≤ b) (hw : Adr a ws) (hn : ws.length = n) (hA : ∀ q, blkh a n b q → A q) : va_D A (ws ++ stW G b T) :=
  va_D.app (hw.D fun q h1 h2 => hA q (Or.inl ⟨h1, by rw [hn] at h2; exact h2⟩)) (st_D b T fun q h => hA q (Or.inr h)) (fun i j p q hp hq e => by
    have h1 := hw.lt hp
    have h2 := st_blk hq
    rw [hn] at h1
    omega)
theorem hs2_pO {G : GG} {a b : Nat} {S : HS} {v : Nat} {H : Heap} (h : va_P G.1 vwCl ((hsW G a (hH S) ++ stW G b (hT S)).set 0 (a, .inr (0, ([.ref (a + 1), .int (nI (qO (hH S))), .int (nI (qK (hH S)))] : List Value).set 1 (.int (nI v))))) H) : Hst2 G a b (kH S (uO (hH S) v)) H := h
theorem hs2_pK {G : GG} {a b : Nat} {S : HS} {v : Nat} {H : Heap} (h : va_P G.1 vwCl ((hsW G a (hH S) ++ stW G b (hT S)).set 0 (a, .inr (0, ([.ref (a + 1), .int (nI (qO (hH S))), .int (nI (qK (hH S)))] : List Value).set 2 (.int (nI v))))) H) : Hst2 G a b (kH S (uK (hH S) v)) H := h
theorem hs_split {G : GG} {a : Nat} {D : Hi} {n : Nat} {H : Heap} : va_P G.1 vwCl (hsI G a D n) H ↔ va_P G.1 vwCl [(a, .inr (0, [.ref (a + 1), .int (nI (qO D)), .int (nI (qK D))])), (a + 1, .inl (G.2 3, 14, .inr (.inr (.inr (.inr (rk (a + 2) n))))))] H ∧ ∀ i, i < n → Str G (a + 2 + 9 * i) (qF D i) H := by
  rw [← pool_P]
  exact P_app (w1 := [_, _])
theorem sv_split {G : GG} {a : Nat} {D : Sl} {n : Nat} {H : Heap} : va_P G.1 vwCl (svI G a D n) H ↔ va_P G.1 vwCl [(a, .inr (1, [.ref (a + 1), .ref (a + 2)])), (a + 1, .inl (G.2 3, 2, .inr (.inr (.inr (.inr (rk (a + 3) n)))))), (a + 2, .inl (G.2 2, 2, .inl (vB D)))] H ∧ ∀ i, i < n → Str G (a + 3 + 9 * i) (vF D i) H := by
  rw [← pool_P]
  exact P_app (w1 := [_, _, _])
theorem two_adr {a : Nat} {e0 e1 : va_E} : Adr a [(a, e0), (a + 1, e1)] := Adr.one.app Adr.one rfl
theorem thr_adr {a : Nat} {e0 e1 e2 : va_E} : Adr a [(a, e0), (a + 1, e1), (a + 2, e2)] := Adr.one.app (two_adr (a := a + 1)) rfl
/-- a row of streets, one of them written -/
theorem row_back {G : GG} {x : Nat} {f : Nat → St} {n j : Nat} {S : St} {H H1 : Heap} {fr : Nat → Prop} (hf : ∀ i, i < n → Str G (x + 9 * i) (f i) H) (hj : Str G (x + 9 * j) S H1) (hk : ∀ q : Nat, q < H.size → ¬ fr q → H1[q]? = H[q]?) (hd : ∀ i q, i < n → i ≠ j → blk (x + 9 * i) (x + 9 * i + 9) q → ¬ fr q) : ∀ i, i < n → Str G (x + 9 * i) (if i = j then S else f i) H1 := by
  intro i hi
  by_cases e : i = j
  · rw [if_pos e, e]
    exact hj
  · rw [if_neg e]
    exact P_out (hf i hi) (st_adr G _ _) hk (fun q h1 h2 => hd i q hi e ⟨h1, by rw [st_len] at h2; exact h2⟩)
theorem hs2_row {G : GG} {a b j : Nat} {S : HS} {H : Heap} (hj : j < 14) (h : Hst2 G a b S H) : Str2 G (a + 2 + 9 * j) b (qF (hH S) j) (hT S) H := P_app.mpr ⟨(hs_split.mp (P_app.mp h).1).2 j hj, (P_app.mp h).2⟩
theorem hs2_row' {G : GG} {a b j : Nat} {S : HS} {H : Heap} (hj : j < 14) (h : Hst2 G a b S H) : Str2 G b (a + 2 + 9 * j) (hT S) (qF (hH S) j) H := P_app.mpr ⟨(P_app.mp h).2, (hs_split.mp (P_app.mp h).1).2 j hj⟩
theorem hs2_put {G : GG} {a b j : Nat} {S : HS} {H H1 : Heap} (hj : j < 14) (hd : b + 9 ≤ a ∨ a + 128 ≤ b) (h : Hst2 G a b S H) (h1 : Str2 G (a + 2 + 9 * j) b (h_X4_copyFrom (qF (hH S) j) (hT S)) (hT S) H1) (hk : ∀ q : Nat, q < H.size → ¬ blk2 (a + 2 + 9 * j) b q → H1[q]? = H[q]?) : Hst2 G a b (kH S (uF (hH S) j (hT S))) H1 := by
  have c := cp_cells h1
  have g := hs_split.mp (P_app.mp h).1
  refine P_app.mpr ⟨hs_split.mpr ⟨P_out g.1 two_adr hk (fun q h1 h2 => ?_), row_back g.2 c.1 hk (fun i q hi e hq => ?_)⟩, c.2⟩
  · intro z
    simp only [blk2, blk, List.length_cons, List.length_nil] at z h2
    omega
  · intro z
    simp only [blk2, blk] at z hq
    omega
theorem hs2_get {G : GG} {a b j : Nat} {S : HS} {H H1 : Heap} (hj : j < 14) (hd : b + 9 ≤ a ∨ a + 128 ≤ b) (h : Hst2 G a b S H) (h1 : Str2 G b (a + 2 + 9 * j) (h_X4_copyFrom (hT S) (qF (hH S) j)) (qF (hH S) j) H1) (hk : ∀ q : Nat, q < H.size → ¬ blk2 b (a + 2 + 9 * j) q → H1[q]? = H[q]?) : Hst2 G a b (kT S (qF (hH S) j)) H1 := by
  have c := cp_cells h1
  have g := hs_split.mp (P_app.mp h).1
  have r := row_back (S := qF (hH S) j) g.2 c.2 hk (fun i q hi e hq => by
    intro z
    simp only [blk2, blk] at z hq
    omega)
  refine P_app.mpr ⟨hs_split.mpr ⟨P_out g.1 two_adr hk (fun q h1 h2 => ?_), fun i hi => ?_⟩, c.1⟩
  · intro z
    simp only [blk2, blk, List.length_cons, List.length_nil] at z h2
    omega
  · have := r i hi
    by_cases e : i = j
    · rw [if_pos e] at this
      rw [e] at this ⊢
      exact this
    · rw [if_neg e] at this
      exact this
abbrev VS : Type := Sl × St
def vH (S : VS) : Sl := S.1
def vT (S : VS) : St := S.2
def jH (S : VS) (D : Sl) : VS := (D, S.2)
def jT (S : VS) (T : St) : VS := (S.1, T)
abbrev Slt2 (G : GG) (a b : Nat) (S : VS) (H : Heap) : Prop := va_P G.1 vwCl (svW G a (vH S) ++ stW G b (vT S)) H
theorem sv2_pB {G : GG} {a b : Nat} {S : VS} {v : Rw} {H : Heap} (h : va_P G.1 vwCl ((svW G a (vH S) ++ stW G b (vT S)).set 2 (a + 2, .inl (G.2 2, 2, .inl v))) H) : Slt2 G a b (jH S (uB (vH S) v)) H := h
theorem sv2_row {G : GG} {a b j : Nat} {S : VS} {H : Heap} (hj : j < 2) (h : Slt2 G a b S H) : Str2 G (a + 3 + 9 * j) b (vF (vH S) j) (vT S) H := P_app.mpr ⟨(sv_split.mp (P_app.mp h).1).2 j hj, (P_app.mp h).2⟩
theorem sv2_row' {G : GG} {a b j : Nat} {S : VS} {H : Heap} (hj : j < 2) (h : Slt2 G a b S H) : Str2 G b (a + 3 + 9 * j) (vT S) (vF (vH S) j) H := P_app.mpr ⟨(P_app.mp h).2, (sv_split.mp (P_app.mp h).1).2 j hj⟩
theorem sv2_put {G : GG} {a b j : Nat} {S : VS} {H H1 : Heap} (hj : j < 2) (hd : b + 9 ≤ a ∨ a + 21 ≤ b) (h : Slt2 G a b S H) (h1 : Str2 G (a + 3 + 9 * j) b (h_X4_copyFrom (vF (vH S) j) (vT S)) (vT S) H1) (hk : ∀ q : Nat, q < H.size → ¬ blk2 (a + 3 + 9 * j) b q → H1[q]? = H[q]?) : Slt2 G a b (jH S (uW (vH S) j (vT S))) H1 := by
  have c := cp_cells h1
  have g := sv_split.mp (P_app.mp h).1
  refine P_app.mpr ⟨sv_split.mpr ⟨P_out g.1 thr_adr hk (fun q h1 h2 => ?_), row_back g.2 c.1 hk (fun i q hi e hq => ?_)⟩, c.2⟩
  · intro z
    simp only [blk2, blk, List.length_cons, List.length_nil] at z h2
    omega
  · intro z
    simp only [blk2, blk] at z hq
    omega
theorem sv2_get {G : GG} {a b j : Nat} {S : VS} {H H1 : Heap} (hj : j < 2) (hd : b + 9 ≤ a ∨ a + 21 ≤ b) (h : Slt2 G a b S H) (h1 : Str2 G b (a + 3 + 9 * j) (h_X4_copyFrom (vT S) (vF (vH S) j)) (vF (vH S) j) H1) (hk : ∀ q : Nat, q < H.size → ¬ blk2 b (a + 3 + 9 * j) q → H1[q]? = H[q]?) : Slt2 G a b (jT S (vF (vH S) j)) H1 := by
  have c := cp_cells h1
  have g := sv_split.mp (P_app.mp h).1
  have r := row_back (S := vF (vH S) j) g.2 c.2 hk (fun i q hi e hq => by
    intro z
    simp only [blk2, blk] at z hq
    omega)
  refine P_app.mpr ⟨sv_split.mpr ⟨P_out g.1 thr_adr hk (fun q h1 h2 => ?_), fun i hi => ?_⟩, c.1⟩
  · intro z
    simp only [blk2, blk, List.length_cons, List.length_nil] at z h2
    omega
  · have := r i hi
    by_cases e : i = j
    · rw [if_pos e] at this
      rw [e] at this ⊢
      exact this
    · rw [if_neg e] at this
      exact this
theorem hs_recv {G : GG} {s : State} {H : Heap} {a : Nat} {D : Hi} {w : va_W} (hO : Ok G s) (hP : va_P G.1 vwCl (hsW G a D ++ w) H) : ∃ cell : Cell, H[a]? = some cell ∧ cell.vm.isStatics = false ∧ s.vm.findClass RX0 = some cell.cls := va_recv hO.1 hP (ci := 0) (q0 := 0) rfl rfl
theorem sv_recv {G : GG} {s : State} {H : Heap} {a : Nat} {D : Sl} {w : va_W} (hO : Ok G s) (hP : va_P G.1 vwCl (svW G a D ++ w) H) : ∃ cell : Cell, H[a]? = some cell ∧ cell.vm.isStatics = false ∧ s.vm.findClass RX1 = some cell.cls := va_recv hO.1 hP (ci := 1) (q0 := 0) rfl rfl
