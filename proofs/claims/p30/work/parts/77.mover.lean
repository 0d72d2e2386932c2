/-! runs of free cells -/
def Run (g : Rw) (a n : Nat) : Prop := a + n ≤ 80 ∧ ∀ i, a ≤ i → i < a + n → g (7 + i) = -1
theorem longest_lp (g : Rw) : ∀ (n most k : Nat), k ≤ 80 → (k = 80 ∨ isSt g k) → 80 < k + n → most ≤ 80 → most ≤ lp_rLongest g n most k ∧ (∀ i, k ≤ i → isSt g i → f_X7_gapCells g i ≤ lp_rLongest g n most k) ∧ (lp_rLongest g n most k = most ∨ ∃ i, isSt g i ∧ lp_rLongest g n most k = f_X7_gapCells g i) := by
  intro n
  induction n with
  | zero => intro most k hk hs hn; omega
  | succ n ih =>
    intro most k hk hs hn hm
    rw [lp_rLongest]
    rcases hs with rfl | hs
    · rw [if_pos p80]
      exact ⟨Nat.le_refl _, fun i hi hs => by have := hs.1; omega, Or.inl rfl⟩
    · obtain ⟨u1, u2, u3⟩ := next_up hs
      have hc := cells_le g (j := k) (by have := hs.1; omega)
      rw [if_neg (s80 hs.1)]
      by_cases c : nI (f_X7_gapCells g k) ≤ nI most
      · have c' := (nI_leI (by omega) (by omega)).mp c
        rw [if_pos c]
        obtain ⟨a, b, d⟩ := ih most _ u2 u3 (by omega) hm
        refine ⟨a, fun i hi hi2 => ?_, d⟩
        by_cases e : i = k
        · rw [e]; omega
        · rcases Nat.lt_or_ge i (f_X7_nextGap g k) with z | z
          · exact absurd hi2 (nst_next hs (by omega) z)
          · exact b i z hi2
      · have c' : most < f_X7_gapCells g k := by
          rcases Nat.lt_or_ge most (f_X7_gapCells g k) with z | z
          · exact z
          · exact absurd ((nI_leI (by omega) (by omega)).mpr z) c
        rw [if_neg c]
        obtain ⟨a, b, d⟩ := ih (f_X7_gapCells g k) _ u2 u3 (by omega) (by omega)
        refine ⟨by omega, fun i hi hi2 => ?_, ?_⟩
        · by_cases e : i = k
          · rw [e]; exact a
          · rcases Nat.lt_or_ge i (f_X7_nextGap g k) with z | z
            · exact absurd hi2 (nst_next hs (by omega) z)
            · exact b i z hi2
        · rcases d with d | d
          · exact Or.inr ⟨k, hs, d⟩
          · exact Or.inr d
theorem start_of {g : Rw} : ∀ a, a < 80 → g (7 + a) = -1 → ∃ k, k ≤ a ∧ isSt g k ∧ ∀ i, k ≤ i → i ≤ a → g (7 + i) = -1 := by
  intro a
  induction a with
  | zero => intro h hf; exact ⟨0, Nat.le_refl _, ⟨h, hf, Or.inl rfl⟩, fun i h1 h2 => by rw [show i = 0 by omega]; exact hf⟩
  | succ a ih =>
    intro h hf
    by_cases c : g (7 + a) = -1
    · obtain ⟨k, hk, hs, hr⟩ := ih (by omega) c
      refine ⟨k, by omega, hs, fun i h1 h2 => ?_⟩
      by_cases e : i = a + 1
      · rw [e]; exact hf
      · exact hr i h1 (by omega)
    · exact ⟨a + 1, Nat.le_refl _, ⟨h, hf, Or.inr c⟩, fun i h1 h2 => by rw [show i = a + 1 by omega]; exact hf⟩
theorem longest_run {g : Rw} {n : Nat} (hn : 1 ≤ n) : n ≤ f_X7_longest g ↔ ∃ a, Run g a n := by
  have fu := first_up (g := g)
  obtain ⟨-, b, d⟩ := longest_lp g 81 0 _ fu.1 fu.2 (by omega) (by omega)
  constructor
  · intro h
    rcases d with d | ⟨i, hs, e⟩
    · have : f_X7_longest g = 0 := d
      omega
    · have e' : f_X7_longest g = f_X7_gapCells g i := e
      have := cells_le g (j := i) (by have := hs.1; omega)
      exact ⟨i, by omega, fun k h1 h2 => cells_free g (by have := hs.1; omega) h1 (by omega)⟩
  · rintro ⟨a, ha, hr⟩
    obtain ⟨k, hk, hs, hf⟩ := start_of a (by omega) (hr a (Nat.le_refl _) (by omega))
    have h1 : f_X7_gapFrom g 0 ≤ k := by
      rcases Nat.lt_or_ge k (f_X7_gapFrom g 0) with y | y
      · exact absurd hs (nst_first y)
      · exact y
    have h2 := b k h1 hs
    have h3 := cells_ge (g := g) (j := k) (e := a + n) (by omega) ha (fun i i1 i2 => by
      rcases Nat.lt_or_ge a i with y | y
      · exact hr i (by omega) i2
      · exact hf i i1 y)
    have : lp_rLongest g 81 0 (f_X7_gapFrom g 0) = f_X7_longest g := rfl
    omega
theorem suff_run {g : Rw} {j r : Nat} (hj : 2 ≤ j ∧ j ≤ 8) (hr : r ≤ 4) (h3 : g 3 = nI r) : f_X7_suffices g (nI j) = 0 ↔ ¬ ∃ a, Run g a (j + r) := by
  have := longest_le g
  rw [← longest_run (by omega), f_X7_suffices, h3, nI_add, b01, nI_ltI (by omega) (by omega)]
  omega
/-- free cells below q -/
def dn (g : Rw) : Nat → Nat
  | 0 => 0
  | q + 1 => if g (7 + q) = -1 then dn g q + 1 else 0
theorem dn_le (g : Rw) : ∀ q, dn g q ≤ q := by
  intro q
  induction q with
  | zero => exact Nat.le_refl _
  | succ q ih =>
    rw [dn]
    by_cases c : g (7 + q) = -1
    · rw [if_pos c]; omega
    · rw [if_neg c]; omega
theorem dn_free (g : Rw) : ∀ q i, q - dn g q ≤ i → i < q → g (7 + i) = -1 := by
  intro q
  induction q with
  | zero => intro i _ h; omega
  | succ q ih =>
    intro i h1 h2
    rw [dn] at h1
    by_cases c : g (7 + q) = -1
    · rw [if_pos c] at h1
      by_cases e : i = q
      · rw [e]; exact c
      · exact ih i (by omega) (by omega)
    · rw [if_neg c] at h1; omega
theorem dn_end (g : Rw) : ∀ q, q = dn g q ∨ ¬ g (7 + (q - dn g q - 1)) = -1 := by
  intro q
  induction q with
  | zero => exact Or.inl rfl
  | succ q ih =>
    rw [dn]
    by_cases c : g (7 + q) = -1
    · rw [if_pos c]
      rcases ih with e | e
      · exact Or.inl (by omega)
      · refine Or.inr ?_
        rw [show q + 1 - (dn g q + 1) - 1 = q - dn g q - 1 by omega]
        exact e
    · rw [if_neg c]
      exact Or.inr c
theorem below_lp {S : St} {g : Rw} (h : Rel S g) : ∀ (q acc n : Nat), q < n → q ≤ 80 → lp_below S n (nI acc) (nI q + (-1)) = nI (acc + dn g q) := by
  intro q
  induction q with
  | zero =>
    intro acc n hn _
    obtain ⟨m, rfl⟩ : ∃ m, n = m + 1 := ⟨n - 1, by omega⟩
    rw [lp_below, if_pos (by decide)]
    rfl
  | succ q ih =>
    intro acc n hn hq
    obtain ⟨m, rfl⟩ : ∃ m, n = m + 1 := ⟨n - 1, by omega⟩
    rw [lp_below, pk_m1, if_neg (nI_pos (by omega)), free_eq h (by omega), dn]
    by_cases c : g (7 + q) = -1
    · rw [if_pos c, if_neg (by decide), if_pos c, nI_1, ih _ _ (by omega) (by omega)]
      congr 1
      omega
    · rw [if_neg c, if_pos rfl, if_neg c]
      try rfl
theorem cells_step {g : Rw} {u : Nat} (hu : u < 80) : f_X7_gapCells g u = if g (7 + u) = -1 then f_X7_gapCells g (u + 1) + 1 else 0 := by
  by_cases c : g (7 + u) = -1
  · rw [if_pos c]
    have h1 := cells_le g (j := u + 1) (by omega)
    have := cells_eq (g := g) (k := u) (e := u + 1 + f_X7_gapCells g (u + 1)) (by omega) h1 (fun i i1 i2 => by
      by_cases e : i = u
      · rw [e]; exact c
      · exact cells_free g (j := u + 1) (by omega) (by omega) i2) (by
      rcases Nat.lt_or_ge (u + 1 + f_X7_gapCells g (u + 1)) 80 with z | z
      · exact Or.inr (cells_max g (by omega) z)
      · exact Or.inl (by omega))
    omega
  · rw [if_neg c]
    have := cells_lt (g := g) (j := u) (e := u) (Nat.le_refl _) (by omega) c
    omega
theorem above_lp {S : St} {g : Rw} (h : Rel S g) : ∀ (n u acc : Nat), u ≤ 80 → 80 < u + n → lp_above S n (nI acc) (nI u) = nI (acc + f_X7_gapCells g u) := by
  intro n
  induction n with
  | zero => intro u acc h1 h2; omega
  | succ n ih =>
    intro u acc h1 h2
    rw [lp_above]
    by_cases c1 : (80 : Int32) ≤ nI u
    · have hu : u = 80 := by
        have := (k80 h1).mp c1
        omega
      rw [if_pos c1, hu]
      have := cells_le g (j := 80) (by omega)
      rw [show f_X7_gapCells g 80 = 0 by omega]
      rfl
    · have hlt : u < 80 := kN (B := 80) c1 (by omega) (by omega)
      rw [if_neg c1, free_eq h hlt, cells_step hlt]
      by_cases c : g (7 + u) = -1
      · rw [if_pos c, if_neg (by decide), if_pos c, nI_1, nI_1, ih _ _ (by omega) (by omega)]
        congr 1
        omega
      · rw [if_neg c, if_pos rfl, if_neg c]
        try rfl
/-! one parked car and the free cells round it -/
def Pk (g : Rw) (c p L B A : Nat) : Prop :=
  (c < gm g) ∧
  (f_X7_of g c 2 = 0) ∧
  (px g c = p) ∧
  (pj g c = L) ∧
  (2 ≤ L) ∧
  (B = dn g p) ∧
  (A = f_X7_gapCells g (p + L)) ∧
  (p + L ≤ 80)
theorem Pk.hc {g : Rw} {c p L B A : Nat} (h : Pk g c p L B A) : c < gm g := h.1
theorem Pk.hs {g : Rw} {c p L B A : Nat} (h : Pk g c p L B A) : f_X7_of g c 2 = 0 := h.2.1
theorem Pk.ep {g : Rw} {c p L B A : Nat} (h : Pk g c p L B A) : px g c = p := h.2.2.1
theorem Pk.eL {g : Rw} {c p L B A : Nat} (h : Pk g c p L B A) : pj g c = L := h.2.2.2.1
theorem Pk.L2 {g : Rw} {c p L B A : Nat} (h : Pk g c p L B A) : 2 ≤ L := h.2.2.2.2.1
theorem Pk.hB {g : Rw} {c p L B A : Nat} (h : Pk g c p L B A) : B = dn g p := h.2.2.2.2.2.1
theorem Pk.hA {g : Rw} {c p L B A : Nat} (h : Pk g c p L B A) : A = f_X7_gapCells g (p + L) := h.2.2.2.2.2.2.1
theorem Pk.hpL {g : Rw} {c p L B A : Nat} (h : Pk g c p L B A) : p + L ≤ 80 := h.2.2.2.2.2.2.2
theorem Pk.all {g : Rw} {c p L B A : Nat} (h : Pk g c p L B A) : B ≤ p ∧ p + L + A ≤ 80 ∧ (∀ i, p - B ≤ i → i < p → g (7 + i) = -1) ∧ (∀ i, p + L ≤ i → i < p + L + A → g (7 + i) = -1) ∧ (p = B ∨ ¬ g (7 + (p - B - 1)) = -1) ∧ (p + L + A = 80 ∨ ¬ g (7 + (p + L + A)) = -1) := by
  obtain ⟨hc, hs, ep, eL, L2, hB, hA, hpL⟩ := h
  have h1 := dn_le g p
  have h2 := cells_le g (j := p + L) hpL
  subst hB hA
  refine ⟨h1, h2, dn_free g p, fun i i1 i2 => cells_free g hpL i1 i2, dn_end g p, ?_⟩
  rcases Nat.lt_or_ge (p + L + f_X7_gapCells g (p + L)) 80 with z | z
  · exact Or.inr (cells_max g hpL z)
  · exact Or.inl (by omega)
theorem rClear_yes {g : Rw} {c : Int32} {to : Nat} (ht : to ≤ 80) : ∀ (n k : Nat), k ≤ to → to < k + n → (∀ y, k ≤ y → y < to → g (7 + y) = -1 ∨ g (7 + y) = c) → lp_rClear g c to n 1 k = 1 := by
  intro n
  induction n with
  | zero => intro k h1 h2; omega
  | succ n ih =>
    intro k h1 h2 hf
    rw [lp_rClear]
    by_cases c1 : nI to ≤ nI k
    · rw [if_pos c1]
    · have c1' : ¬ to ≤ k := fun z => c1 ((nI_leI (by omega) (by omega)).mpr z)
      rw [if_neg c1, if_neg (show ¬ (1 : Int32) = 0 by decide)]
      have q := ih (k + 1) (by omega) (by omega) (fun y y1 y2 => hf y (by omega) y2)
      by_cases c2 : g (7 + k) = -1
      · rw [if_pos c2]; exact q
      · rw [if_neg c2]
        rcases hf k (Nat.le_refl _) (by omega) with z | z
        · exact absurd z c2
        · rw [if_pos z]; exact q
theorem can_iff {g : Rw} (hi : Inv g) {c p L B A x : Nat} (h : Pk g c p L B A) (hx : x < 80) : ¬ f_X7_canMove g c x = 0 ↔ p - B ≤ x ∧ x ≤ p + A := by
  obtain ⟨a1, a2, fB, fA, eB, eA⟩ := h.all
  obtain ⟨hc, hs, ep, eL, L2, hB, hA, hpL⟩ := h
  have hm := hi.ri.m.2
  obtain ⟨e3, e0, hx8⟩ := hi.ri.X hc hs
  have own : ∀ y, p ≤ y → y < p + L → g (7 + y) = nI c := fun y y1 y2 => hi.pc c hc hs y ⟨by omega, by omega⟩
  have own' : ∀ y, y < 80 → g (7 + y) = nI c → p ≤ y ∧ y < p + L := fun y hy e => by
    rcases hi.cc y hy with z | z | ⟨d, hd, hp, hv, hr⟩
    · rw [z] at e; exact absurd e.symm (nI_m1 (by omega))
    · rw [z] at e
      have := nI_inj (a := 100) (b := c) (by omega) (by omega) e
      omega
    · have : d = c := nI_inj (by omega) (by omega) (hv.symm.trans e)
      subst this
      have h1 := hr.1
      have h2 := hr.2
      omega
  have hpk : ¬ f_X7_isParked g (nI c) = 0 := fun z => (isParked_n hi.ri hc).mp z hs
  have L8 := (hi.ri.J hc).2
  constructor
  · intro hn
    rw [f_X7_canMove, if_neg hpk, e3, ep, eL] at hn
    by_cases c1 : nI p ≤ nI x
    · have c1' := (nI_leI (by omega) (by omega)).mp c1
      rw [if_pos c1, if_pos c1] at hn
      have hcl : ¬ f_X7_isClear g (nI c) p (x + L) = 0 := fun z => hn (b01.mpr z)
      rw [f_X7_isClear] at hcl
      by_cases c2 : (80 : Int32) < nI (x + L)
      · rw [if_pos c2, rClear_0] at hcl; exact absurd rfl hcl
      · have c2' : ¬ 80 < x + L := fun z => c2 ((nI_ltI (a := 80) (by omega) (by omega)).mpr z)
        rw [if_neg c2] at hcl
        have q := rClear_all (by omega) 81 p (by omega) (by omega) hcl
        refine ⟨by omega, ?_⟩
        rcases Nat.lt_or_ge (p + A) x with z | z
        · have q1 := q (p + L + A) (by omega) (by omega)
          rcases eA with y | y
          · omega
          · rcases q1 with w | w
            · exact absurd w y
            · have := own' _ (by omega) w
              omega
        · exact z
    · have c1' : ¬ p ≤ x := fun z => c1 ((nI_leI (by omega) (by omega)).mpr z)
      rw [if_neg c1, if_neg c1] at hn
      have hcl : ¬ f_X7_isClear g (nI c) x (p + L) = 0 := fun z => hn (b01.mpr z)
      rw [f_X7_isClear, if_neg (show ¬ (80 : Int32) < nI (p + L) from fun z => by
        have := (nI_ltI (a := 80) (by omega) (by omega)).mp z
        omega)] at hcl
      have q := rClear_all hpL 81 x (by omega) (by omega) hcl
      refine ⟨?_, by omega⟩
      rcases Nat.lt_or_ge x (p - B) with z | z
      · have q1 := q (p - B - 1) (by omega) (by omega)
        rcases eB with y | y
        · omega
        · rcases q1 with w | w
          · exact absurd w y
          · have := own' _ (by omega) w
            omega
      · exact z
  · rintro ⟨x1, x2⟩
    have fr : ∀ y, p - B ≤ y → y < p + L + A → g (7 + y) = -1 ∨ g (7 + y) = nI c := fun y y1 y2 => by
      rcases Nat.lt_or_ge y p with z | z
      · exact Or.inl (fB y y1 z)
      · rcases Nat.lt_or_ge y (p + L) with w | w
        · exact Or.inr (own y z w)
        · exact Or.inl (fA y w y2)
    rw [f_X7_canMove, if_neg hpk, e3, ep, eL]
    by_cases c1 : nI p ≤ nI x
    · have c1' := (nI_leI (by omega) (by omega)).mp c1
      rw [if_pos c1, if_pos c1, f_X7_isClear, if_neg (show ¬ (80 : Int32) < nI (x + L) from fun z => by
        have := (nI_ltI (a := 80) (by omega) (by omega)).mp z
        omega), rClear_yes (by omega) 81 p (by omega) (by omega) (fun y y1 y2 => fr y (by omega) (by omega))]
      decide
    · have c1' : ¬ p ≤ x := fun z => c1 ((nI_leI (by omega) (by omega)).mpr z)
      rw [if_neg c1, if_neg c1, f_X7_isClear, if_neg (show ¬ (80 : Int32) < nI (p + L) from fun z => by
        have := (nI_ltI (a := 80) (by omega) (by omega)).mp z
        omega), rClear_yes hpL 81 x (by omega) (by omega) (fun y y1 y2 => fr y (by omega) (by omega))]
      decide
/-- the row after the move -/
theorem moved_run {g : Rw} {c p L B A x n : Nat} (h : Pk g c p L B A) (hn : 1 ≤ n) (no : ¬ ∃ a, Run g a n) (x1 : p - B ≤ x) (x2 : x ≤ p + A) {G : Rw} (hG : ∀ y, y < 80 → G (7 + y) = if x ≤ y ∧ y < x + L then nI c else if p ≤ y ∧ y < p + L then -1 else g (7 + y)) (hc31 : c < 2 ^ 31) : (∃ a, Run G a n) ↔ (p - B + n ≤ x ∨ x + n ≤ p + A) := by
  obtain ⟨a1, a2, fB, fA, eB, eA⟩ := h.all
  have hpL := h.hpL
  have L2 := h.L2
  have seg : ∀ y, p - B ≤ y → y < p + L + A → ¬ (x ≤ y ∧ y < x + L) → G (7 + y) = -1 := fun y y1 y2 y3 => by
    rw [hG y (by omega), if_neg y3]
    by_cases z : p ≤ y ∧ y < p + L
    · rw [if_pos z]
    · rw [if_neg z]
      rcases Nat.lt_or_ge y p with w | w
      · exact fB y y1 w
      · exact fA y (by omega) y2
  have nc : ∀ y, y < 80 → x ≤ y → y < x + L → ¬ G (7 + y) = -1 := fun y y0 y1 y2 => by
    rw [hG y y0, if_pos ⟨y1, y2⟩]
    exact nI_m1 hc31
  have out : ∀ y, y < 80 → (y < p - B ∨ p + L + A ≤ y) → G (7 + y) = g (7 + y) := fun y y0 y1 => by
    rw [hG y y0, if_neg (by omega), if_neg (by omega)]
  constructor
  · rintro ⟨a, ha, hr⟩
    -- does the run touch the segment?
    by_cases t1 : a + n ≤ p - B
    · exact absurd ⟨a, ha, fun i i1 i2 => by rw [← out i (by omega) (Or.inl (by omega))]; exact hr i i1 i2⟩ no
    · by_cases t2 : p + L + A ≤ a
      · exact absurd ⟨a, ha, fun i i1 i2 => by rw [← out i (by omega) (Or.inr (by omega))]; exact hr i i1 i2⟩ no
      · have s1 : p - B ≤ a := by
          rcases Nat.lt_or_ge a (p - B) with z | z
          · rcases eB with y | y
            · omega
            · have := hr (p - B - 1) (by omega) (by omega)
              rw [out _ (by omega) (Or.inl (by omega))] at this
              exact absurd this y
          · exact z
        have s2 : a + n ≤ p + L + A := by
          rcases Nat.lt_or_ge (p + L + A) (a + n) with z | z
          · rcases eA with y | y
            · omega
            · have := hr (p + L + A) (by omega) (by omega)
              rw [out _ (by omega) (Or.inr (by omega))] at this
              exact absurd this y
          · exact z
        rcases Nat.lt_or_ge a x with z | z
        · left
          rcases Nat.lt_or_ge x (a + n) with w | w
          · exact absurd (hr x (by omega) w) (nc x (by omega) (Nat.le_refl _) (by omega))
          · omega
        · right
          rcases Nat.lt_or_ge a (x + L) with w | w
          · exact absurd (hr a (Nat.le_refl _) (by omega)) (nc a (by omega) z w)
          · omega
  · rintro (z | z)
    · exact ⟨p - B, by omega, fun i i1 i2 => seg i i1 (by omega) (by omega)⟩
    · exact ⟨x + L, by omega, fun i i1 i2 => seg i (by omega) (by omega) (by omega)⟩
def dist (p x : Nat) : Nat := (x - p) + (p - x)
/-- where the car may go so that it helps -/
abbrev cand (p B A n x : Nat) : Prop := p - B ≤ x ∧ x ≤ p + A ∧ (p - B + n ≤ x ∨ x + n ≤ p + A)
def Best (p B A n k : Nat) (best least : Int32) : Prop := (best = -1 ∧ ∀ y, y < k → ¬ cand p B A n y) ∨ ∃ b, b < k ∧ b < 80 ∧ cand p B A n b ∧ best = nI b ∧ least = nI (dist p b) ∧ ∀ y, y < k → cand p B A n y → dist p b < dist p y ∨ (dist p b = dist p y ∧ b ≤ y)
theorem moveOn_1 {g : Rw} {c p x : Nat} (ep : px g c = p) (hp : p < 2 ^ 20) (hx : x < 2 ^ 20) : (h_X7_moveOn g c x).1 = nI (dist p x) := by
  rw [h_X7_moveOn, ep, dist]
  by_cases z : nI p ≤ nI x
  · have z' := (nI_leI (by omega) (by omega)).mp z
    rw [if_pos z]
    show nI x - nI p = _
    rw [pk_sub z']
    congr 1
    omega
  · have z' : ¬ p ≤ x := fun w => z ((nI_leI (by omega) (by omega)).mpr w)
    rw [if_neg z]
    show nI p - nI x = _
    rw [pk_sub (by omega)]
    congr 1
    omega
theorem helps_step {g : Rw} (hi : Inv g) {c p L B A j r x : Nat} (h : Pk g c p L B A) (hj : 2 ≤ j ∧ j ≤ 8) (hr : r ≤ 4) (h3 : g 3 = nI r) (no : ¬ ∃ a, Run g a (j + r)) (hx : x < 80) (x1 : p - B ≤ x) (x2 : x ≤ p + A) (H : Rw) : f_X7_suffices (h_X7_moveOn (h_X7_copyState g H 0 0) c x).2 (nI j) = 0 ↔ ¬ cand p B A (j + r) x := by
  obtain ⟨a1, a2, -, -, -, -⟩ := h.all
  have hm := hi.ri.m.2
  have hcm := h.hc
  have e : ∀ i, i < 327 → h_X7_copyState g H 0 0 i = g i := fun i hi => cp_00 _ _ hi
  have epx : px (h_X7_copyState g H 0 0) c = p := by rw [px, of_cp _ _ (by omega) (by omega)]; exact h.ep
  have epj : pj (h_X7_copyState g H 0 0) c = L := by rw [pj, of_cp _ _ (by omega) (by omega)]; exact h.eL
  have hpL := h.hpL
  have e2 : (h_X7_moveOn (h_X7_copyState g H 0 0) c x).2 = h_X7_lay (h_X7_fill (h_X7_fill (h_X7_copyState g H 0 0) p L (-1)) x L (nI c)) c 3 (nI x) := by
    rw [h_X7_moveOn, epx, epj]
    split <;> rfl
  rw [e2]
  have hxL : x + L ≤ 80 := by omega
  have g3 : h_X7_lay (h_X7_fill (h_X7_fill (h_X7_copyState g H 0 0) p L (-1)) x L (nI c)) c 3 (nI x) 3 = nI r := by
    rw [lay_lo _ _ (by omega), fill_lo _ _ _ _ (by omega), fill_lo _ _ _ _ (by omega), e 3 (by omega), h3]
  have cl : ∀ y, y < 80 → h_X7_lay (h_X7_fill (h_X7_fill (h_X7_copyState g H 0 0) p L (-1)) x L (nI c)) c 3 (nI x) (7 + y) = if x ≤ y ∧ y < x + L then nI c else if p ≤ y ∧ y < p + L then -1 else g (7 + y) := fun y hy => by
    rw [lay_lo _ _ (by omega), fill_at _ _ hxL, fill_at _ _ hpL, e _ (by omega)]
    by_cases z : x ≤ y ∧ y < x + L
    · rw [if_pos z, if_pos (by omega)]
    · rw [if_neg z, if_neg (by omega)]
      by_cases w : p ≤ y ∧ y < p + L
      · rw [if_pos w, if_pos (by omega)]
      · rw [if_neg w, if_neg (by omega)]
  rw [suff_run hj hr g3, moved_run h (by omega) no x1 x2 cl (by omega)]
  unfold cand
  constructor
  · intro z w; exact z w.2.2
  · intro z w; exact z ⟨x1, x2, w⟩
set_option maxRecDepth 100000 in
theorem helps_lp {g : Rw} (hi : Inv g) {c p L B A j r : Nat} (h : Pk g c p L B A) (hj : 2 ≤ j ∧ j ≤ 8) (hr : r ≤ 4) (h3 : g 3 = nI r) (no : ¬ ∃ a, Run g a (j + r)) : ∀ (n : Nat) (best least : Int32) (k : Nat) (M : Mo), mN M = g → k ≤ 80 → 80 < k + n → Best p B A (j + r) k best least → ∃ l2, Best p B A (j + r) 80 (lp_rHelps c (nI j) n best least k M).1 l2 := by
  obtain ⟨a1, a2, -, -, -, -⟩ := h.all
  intro n
  induction n with
  | zero => intro best least k M hM h1 h2; omega
  | succ n ih =>
    intro best least k M hM h1 h2 hb
    rw [lp_rHelps]
    by_cases c1 : (80 : Int32) ≤ nI k
    · have hk : k = 80 := by
        have := (k80 h1).mp c1
        omega
      rw [if_pos c1]
      subst hk
      exact ⟨least, hb⟩
    · have hk : k < 80 := kN (B := 80) c1 (by omega) (by omega)
      rw [if_neg c1, hM]
      have skip : ¬ cand p B A (j + r) k → Best p B A (j + r) (k + 1) best least := fun nc => by
        rcases hb with ⟨e, q⟩ | ⟨b, b1, b2, b3, b4, b5, q⟩
        · refine Or.inl ⟨e, fun y hy => ?_⟩
          by_cases w : y = k
          · rw [w]; exact nc
          · exact q y (by omega)
        · refine Or.inr ⟨b, by omega, b2, b3, b4, b5, fun y hy hc => ?_⟩
          by_cases w : y = k
          · rw [w] at hc; exact absurd hc nc
          · exact q y (by omega) hc
      by_cases c2 : f_X7_canMove g c k = 0
      · rw [if_pos c2]
        exact ih _ _ (k + 1) M hM (by omega) (by omega) (skip fun w => (can_iff hi h hk).mpr ⟨w.1, w.2.1⟩ c2)
      · obtain ⟨x1, x2⟩ := (can_iff hi h hk).mp c2
        have hs := helps_step hi h hj hr h3 no hk x1 x2 (mH M)
        have ed : (h_X7_moveOn (mH (oH M (h_X7_copyState g (mH M) 0 0))) c k).1 = nI (dist p k) := moveOn_1 (by
          show px (h_X7_copyState g (mH M) 0 0) c = p
          have := h.hc
          have := hi.ri.m.2
          rw [px, of_cp _ _ (by omega) (by omega)]; exact h.ep) (by omega) (by omega)
        have eH : mH (oH (oH M (h_X7_copyState g (mH M) 0 0)) ((h_X7_moveOn (mH (oH M (h_X7_copyState g (mH M) 0 0))) c k).2)) = (h_X7_moveOn (h_X7_copyState g (mH M) 0 0) c k).2 := rfl
        rw [if_neg c2, eH, ed]
        by_cases c3 : f_X7_suffices (h_X7_moveOn (h_X7_copyState g (mH M) 0 0) c k).2 (nI j) = 0
        · rw [if_pos c3]
          exact ih _ _ (k + 1) _ hM (by omega) (by omega) (skip (hs.mp c3))
        · have hcd : cand p B A (j + r) k := Decidable.byContradiction fun z => c3 (hs.mpr z)
          rw [if_neg c3]
          by_cases c4 : best = -1
          · rw [if_pos c4]
            refine ih _ _ (k + 1) _ hM (by omega) (by omega) (Or.inr ⟨k, by omega, hk, hcd, rfl, rfl, fun y hy hc => ?_⟩)
            rcases hb with ⟨e, q⟩ | ⟨b, b1, b2, b3, b4, b5, q⟩
            · by_cases w : y = k
              · rw [w]; exact Or.inr ⟨rfl, Nat.le_refl _⟩
              · exact absurd hc (q y (by omega))
            · rw [b4] at c4; exact absurd c4 (nI_m1 (by omega))
          · rw [if_neg c4]
            rcases hb with ⟨e, q⟩ | ⟨b, b1, b2, b3, b4, b5, q⟩
            · exact absurd e c4
            · have hd1 : dist p b < 2 ^ 31 := by unfold dist; omega
              have hd2 : dist p k < 2 ^ 31 := by unfold dist; omega
              by_cases c5 : least ≤ nI (dist p k)
              · rw [if_pos c5]
                rw [b5, nI_leI hd1 hd2] at c5
                refine ih _ _ (k + 1) _ hM (by omega) (by omega) (Or.inr ⟨b, by omega, b2, b3, b4, b5, fun y hy hc => ?_⟩)
                by_cases w : y = k
                · rw [w]
                  rcases Nat.lt_or_ge (dist p b) (dist p k) with u | u
                  · exact Or.inl u
                  · exact Or.inr ⟨by omega, by omega⟩
                · exact q y (by omega) hc
              · rw [if_neg c5]
                rw [b5, nI_leI hd1 hd2] at c5
                refine ih _ _ (k + 1) _ hM (by omega) (by omega) (Or.inr ⟨k, by omega, hk, hcd, rfl, rfl, fun y hy hc => ?_⟩)
                by_cases w : y = k
                · rw [w]; exact Or.inr ⟨rfl, Nat.le_refl _⟩
                · rcases q y (by omega) hc with u | u
                  · exact Or.inl (by omega)
                  · exact Or.inl (by omega)
theorem best_place {p B A n L : Nat} {best l2 : Int32} (hB : B ≤ p) (hBn : B < n) (hAn : A < n) (hL : 2 ≤ L) (h80 : p + L + A ≤ 80) (h : Best p B A n 80 best l2) : (A + B < n → best = -1) ∧ (n ≤ A + B → best = if A < B then nI (p + (n - B)) else nI (p - (n - A))) := by
  constructor
  · intro hl
    rcases h with ⟨e, -⟩ | ⟨b, -, -, b3, -⟩
    · exact e
    · obtain ⟨u1, u2, u3⟩ := b3
      omega
  · intro hl
    have huniq : ∀ P, P < 80 → cand p B A n P → (∀ y, y < 80 → cand p B A n y → dist p P < dist p y ∨ (dist p P = dist p y ∧ P ≤ y)) → best = nI P := fun P hP hc hq => by
      rcases h with ⟨e, q⟩ | ⟨b, b1, b2, b3, b4, b5, q⟩
      · exact absurd hc (q P hP)
      · have e : b = P := by
          have w1 := q P hP hc
          have w2 := hq b b2 b3
          omega
        rw [b4, e]
    by_cases c : A < B
    · rw [if_pos c]
      refine huniq _ (by omega) ⟨by omega, by omega, Or.inl (by omega)⟩ (fun y hy hc => ?_)
      obtain ⟨u1, u2, u3⟩ := hc
      unfold dist
      omega
    · rw [if_neg c]
      refine huniq _ (by omega) ⟨by omega, by omega, Or.inr (by omega)⟩ (fun y hy hc => ?_)
      obtain ⟨u1, u2, u3⟩ := hc
      unfold dist
      omega
