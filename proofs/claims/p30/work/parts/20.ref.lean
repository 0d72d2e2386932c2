-- 20.ref1.lean.txt
theorem kN1 {B k : Nat} (h : ¬ nI B ≤ nI k) (hB : B < 2 ^ 31) (hk : k < 2 ^ 31) : k < B := Nat.not_le.mp fun q => h (nI_le q hk)
def f_X7_in (v : Int64) (lo : Int64) (hi : Int64) : Int32 :=
  if (lg_cmp v lo) < 0 then 0 else
  if 0 < (lg_cmp v hi) then 0 else
  1
theorem b_f_X7_in (v : Int64) (lo : Int64) (hi : Int64) : f_X7_in v lo hi = 0 ∨ f_X7_in v lo hi = 1 := by
  unfold f_X7_in
  repeat' split
  all_goals first | exact Or.inl rfl | exact Or.inr rfl

def f_X7_isCell (x : Int32) : Int32 :=
  f_X7_in x.toInt64 0 79
theorem b_f_X7_isCell (x : Int32) : f_X7_isCell x = 0 ∨ f_X7_isCell x = 1 := b_f_X7_in ..

def f_X7_isLength (x : Int32) : Int32 :=
  f_X7_in x.toInt64 2 8
theorem b_f_X7_isLength (x : Int32) : f_X7_isLength x = 0 ∨ f_X7_isLength x = 1 := b_f_X7_in ..

def f_X7_isSetting (w : Int32) (v : Int32) : Int32 :=
  if w = 0 then (if (f_X7_in v.toInt64 0 2) = 0 then (if w = 1 then (if (f_X7_in v.toInt64 0 4) = 0 then (if w = 2 then (if (f_X7_in v.toInt64 1 30) = 0 then 0 else
            1) else
          0) else
        1) else
      if w = 2 then (if (f_X7_in v.toInt64 1 30) = 0 then 0 else
        1) else
      0) else
    1) else
  if w = 1 then (if (f_X7_in v.toInt64 0 4) = 0 then (if w = 2 then (if (f_X7_in v.toInt64 1 30) = 0 then 0 else
        1) else
      0) else
    1) else
  if w = 2 then (if (f_X7_in v.toInt64 1 30) = 0 then 0 else
    1) else
  0
theorem b_f_X7_isSetting (w : Int32) (v : Int32) : f_X7_isSetting w v = 0 ∨ f_X7_isSetting w v = 1 := by
  unfold f_X7_isSetting
  repeat' split
  all_goals first | exact Or.inl rfl | exact Or.inr rfl

def f_X7_of (g : Rw) (c : Nat) (w : Nat) : Int32 :=
  g ((87 + (6 * c)) + w)
def h_X7_lay (g : Rw) (c : Nat) (w : Nat) (v : Int32) : Rw :=
  (upd g ((87 + (6 * c)) + w) v)
def f_X7_isCar (g : Rw) (c : Int32) : Int32 :=
  f_X7_in c.toInt64 0 (((g 0) - 1).toInt64)
theorem b_f_X7_isCar (g : Rw) (c : Int32) : f_X7_isCar g c = 0 ∨ f_X7_isCar g c = 1 := b_f_X7_in ..

def lp_gapFrom (g : Rw) : Nat → Nat → Nat
  | 0, k => k
  | n + 1, k => if 80 ≤ (nI k) then k else
    if (g (7 + k)) = (-1) then k else
    lp_gapFrom g n (k + 1)
def f_X7_gapFrom (g : Rw) (j : Nat) : Nat :=
  lp_gapFrom g (81 - j) j
def lp_gapCells (g : Rw) (j : Nat) : Nat → Nat → Nat
  | 0, k => k - j
  | n + 1, k => if 80 ≤ (nI k) then k - j else
    if (g (7 + k)) = (-1) then lp_gapCells g j n (k + 1) else
    k - j
def f_X7_gapCells (g : Rw) (j : Nat) : Nat :=
  lp_gapCells g j (81 - j) j
theorem lpFrom_le (g : Rw) : ∀ (n k : Nat), k ≤ 80 → k + n = 81 → k ≤ lp_gapFrom g n k ∧ lp_gapFrom g n k ≤ 80 := by
  intro n
  induction n with
  | zero => intro k hk hn; omega
  | succ n ih =>
    intro k hk hn
    rw [lp_gapFrom]
    split
    · exact ⟨Nat.le_refl _, hk⟩
    · rename_i c1
      split
      · exact ⟨Nat.le_refl _, hk⟩
      · have h9 : k < 80 := kN (B := 80) c1 (by omega) (by omega)
        have h8 := ih (k + 1) (by omega) (by omega)
        omega
theorem from_le (g : Rw) {j : Nat} (hj : j ≤ 80) : j ≤ f_X7_gapFrom g j ∧ f_X7_gapFrom g j ≤ 80 := lpFrom_le g _ _ hj (by omega)
theorem lpCells_le (g : Rw) (j : Nat) : ∀ (n k : Nat), k ≤ 80 → k + n = 81 → j ≤ k → k - j ≤ lp_gapCells g j n k ∧ j + lp_gapCells g j n k ≤ 80 := by
  intro n
  induction n with
  | zero => intro k hk hn; omega
  | succ n ih =>
    intro k hk hn hj
    rw [lp_gapCells]
    split
    · omega
    · rename_i c1
      split
      · have h9 : k < 80 := kN (B := 80) c1 (by omega) (by omega)
        have h8 := ih (k + 1) (by omega) (by omega) (by omega)
        omega
      · omega
theorem cells_le (g : Rw) {j : Nat} (hj : j ≤ 80) : j + f_X7_gapCells g j ≤ 80 := (lpCells_le g j _ _ hj (by omega) (Nat.le_refl _)).2

theorem next_pre (g : Rw) {j : Nat} (h : j < 80) (hc : f_X7_gapCells g j = 0) : j < f_X7_gapFrom g j := by
  rw [f_X7_gapCells, show 81 - j = (80 - j) + 1 by omega, lp_gapCells, if_neg (show ¬ (80 : Int32) ≤ nI j from nI_ge h (by decide))] at hc
  rw [f_X7_gapFrom, show 81 - j = (80 - j) + 1 by omega, lp_gapFrom, if_neg (show ¬ (80 : Int32) ≤ nI j from nI_ge h (by decide))]
  by_cases c : g (7 + j) = -1
  · rw [if_pos c] at hc
    have h8 := (lpCells_le g j (80 - j) (j + 1) (by omega) (by omega) (by omega)).1
    omega
  · rw [if_neg c]
    have h8 := (lpFrom_le g (80 - j) (j + 1) (by omega) (by omega)).1
    omega

def f_X7_nextGap (g : Rw) (j : Nat) : Nat :=
  (f_X7_gapFrom g (j + (f_X7_gapCells g j)))
theorem next_gt (g : Rw) {j : Nat} (h : j < 80) : j < f_X7_nextGap g j ∧ f_X7_nextGap g j ≤ 80 := by
  rw [f_X7_nextGap]
  have h1 := cells_le g (j := j) (by omega)
  have h2 := from_le g h1
  refine ⟨?_, h2.2⟩
  by_cases c : f_X7_gapCells g j = 0
  · rw [c, Nat.add_zero]
    exact next_pre g h c
  · omega

def lp_rLongest (g : Rw) : Nat → Nat → Nat → Nat
  | 0, most, _ => most
  | n + 1, most, k => if 80 ≤ (nI k) then most else
    if (nI (f_X7_gapCells g k)) ≤ (nI most) then lp_rLongest g n most (f_X7_nextGap g k) else
    lp_rLongest g n (f_X7_gapCells g k) (f_X7_nextGap g k)
def f_X7_longest (g : Rw) : Nat :=
  lp_rLongest g 81 0 (f_X7_gapFrom g 0)
def lp_rGaps (g : Rw) : Nat → Nat → Nat → Nat
  | 0, acc, _ => acc
  | n + 1, acc, k => if 80 ≤ (nI k) then acc else
    lp_rGaps g n (acc + 1) (f_X7_nextGap g k)
def f_X7_gaps (g : Rw) : Nat :=
  lp_rGaps g 81 0 (f_X7_gapFrom g 0)
def lp_rGapOf (g : Rw) (kk : Int32) : Nat → Nat → Nat → Nat
  | 0, _, k => k
  | n + 1, i, k => if kk ≤ (nI i) then k else
    if 80 ≤ (nI k) then k else
    lp_rGapOf g kk n (i + 1) (f_X7_nextGap g k)
def f_X7_gapOf (g : Rw) (kk : Int32) : Nat :=
  lp_rGapOf g kk 81 0 (f_X7_gapFrom g 0)
def f_X7_suffices (g : Rw) (len : Int32) : Int32 :=
  if (nI (f_X7_longest g)) < (len + (g 3)) then 0 else
  1
theorem b_f_X7_suffices (g : Rw) (len : Int32) : f_X7_suffices g len = 0 ∨ f_X7_suffices g len = 1 := by
  unfold f_X7_suffices
  repeat' split
  all_goals first | exact Or.inl rfl | exact Or.inr rfl

def f_X7_reason (g : Rw) (len : Int32) : Int32 :=
  if len ≤ (nI (f_X7_longest g)) then (if (f_X7_suffices g len) = 0 then 2 else
    0) else
  1
def f_X7_chance (g : Rw) : Int64 :=
  (jShl ((g 5).toInt64) 32) ||| (((g 6).toInt64) &&& 4294967295)
def h_X7_layChance (g : Rw) (x : Int64) : Rw :=
  (upd (upd g 5 ((jShr x 32).toInt32)) 6 x.toInt32)
def lp_rPick (len : Int32) : Nat → Int32 → Nat → Rw → Int32 × Rw
  | 0, _, _, g2 => (-1, g2)
  | n + 1, left, k, g2 => if 80 ≤ (nI k) then ((-1), g2) else
    if (nI (f_X7_gapCells g2 k)) < (len + (g2 3)) then (if 0 ≤ left then lp_rPick len n (left - 0) (f_X7_nextGap g2 k) g2 else
      ((nI k) + left, g2)) else
    if (((nI (f_X7_gapCells g2 k)) - len) + 1) ≤ left then lp_rPick len n (left - (((nI (f_X7_gapCells g2 k)) - len) + 1)) (f_X7_nextGap g2 k) g2 else
    ((nI k) + left, g2)
def lp_rAll (g : Rw) (len : Int32) : Nat → Int32 → Nat → Int32 × Rw
  | 0, _, _ => (-1, g)
  | n + 1, all, k => if 80 ≤ (nI k) then (if all = 0 then ((-1), g) else
      lp_rPick len 81 (((jUshr (((f_X7_chance g) * 6364136223846793005) + 1442695040888963407) 33).toInt32) - ((jUshr (((f_X7_chance g) * 6364136223846793005) + 1442695040888963407) 33).toInt32) / all * all) (f_X7_gapFrom (h_X7_layChance g (((f_X7_chance g) * 6364136223846793005) + 1442695040888963407)) 0) (h_X7_layChance g (((f_X7_chance g) * 6364136223846793005) + 1442695040888963407))) else
    if (nI (f_X7_gapCells g k)) < (len + (g 3)) then lp_rAll g len n (all + 0) (f_X7_nextGap g k) else
    lp_rAll g len n (all + (((nI (f_X7_gapCells g k)) - len) + 1)) (f_X7_nextGap g k)
def h_X7_byChance (g : Rw) (len : Int32) : Int32 × Rw :=
  lp_rAll g len 81 0 (f_X7_gapFrom g 0)
-- 21.ref2.lean.txt
def lp_rRule (g : Rw) (len : Int32) : Nat → Int32 → Nat → Int32
  | 0, best, _ => best
  | n + 1, best, k => if 80 ≤ (nI k) then best else
    if (nI (f_X7_gapCells g k)) < (len + (g 3)) then (if (0 : Int32) = 0 then lp_rRule g len n best (f_X7_nextGap g k) else
      if best = (-1) then lp_rRule g len n (nI k) (f_X7_nextGap g k) else
      if (g 2) = 1 then (if (nI (f_X7_gapCells g best.toNatClampNeg)) ≤ (nI (f_X7_gapCells g k)) then lp_rRule g len n best (f_X7_nextGap g k) else
        lp_rRule g len n (nI k) (f_X7_nextGap g k)) else
      lp_rRule g len n best (f_X7_nextGap g k)) else
    if (1 : Int32) = 0 then lp_rRule g len n best (f_X7_nextGap g k) else
    if best = (-1) then lp_rRule g len n (nI k) (f_X7_nextGap g k) else
    if (g 2) = 1 then (if (nI (f_X7_gapCells g best.toNatClampNeg)) ≤ (nI (f_X7_gapCells g k)) then lp_rRule g len n best (f_X7_nextGap g k) else
      lp_rRule g len n (nI k) (f_X7_nextGap g k)) else
    lp_rRule g len n best (f_X7_nextGap g k)
def f_X7_byRule (g : Rw) (len : Int32) : Int32 :=
  lp_rRule g len 81 (-1) (f_X7_gapFrom g 0)
def h_X7_placeFor (g : Rw) (len : Int32) : Int32 × Rw :=
  if (g 2) = 2 then ((h_X7_byChance g len).1, (h_X7_byChance g len).2) else
  (f_X7_byRule g len, g)
def lp_rFill (x j : Nat) (v : Int32) : Nat → Nat → Rw → Rw
  | 0, _, g2 => g2
  | n + 1, k, g2 => if (nI (x + j)) ≤ (nI k) then g2 else
    lp_rFill x j v n (k + 1) (upd g2 (7 + k) v)
def h_X7_fill (g : Rw) (x : Nat) (j : Nat) (v : Int32) : Rw :=
  lp_rFill x j v (j + 1) x g
def lp_rWith (g : Rw) (mk : Int32) : Nat → Nat → Int32 → Int32
  | 0, _, _ => 0
  | n + 1, k, acc => if 80 ≤ (nI k) then acc else
    if (g (7 + k)) = mk then lp_rWith g mk n (k + 1) (acc + 1) else
    lp_rWith g mk n (k + 1) (acc + 0)
def f_X7_cellsWith (g : Rw) (mk : Int32) : Int32 :=
  lp_rWith g mk (80 + 1) 0 0
def lp_rMany (g : Rw) (sta : Int32) : Nat → Nat → Int32 → Int32
  | 0, _, _ => 0
  | n + 1, k, acc => if (g 0) ≤ (nI k) then acc else
    if (f_X7_of g k 2) = sta then lp_rMany g sta n (k + 1) (acc + 1) else
    lp_rMany g sta n (k + 1) (acc + 0)
def f_X7_many (g : Rw) (sta : Int32) : Int32 :=
  lp_rMany g sta ((g 0).toNatClampNeg + 1) 0 0
def px (g : Rw) (c : Nat) : Nat := (f_X7_of g c 3).toNatClampNeg
def pj (g : Rw) (c : Nat) : Nat := (f_X7_of g c 0).toNatClampNeg
theorem rFill_hi (x j : Nat) (v : Int32) (h : x + j ≤ 80) (i : Nat) (hi : 87 ≤ i) : ∀ (n k : Nat) (g : Rw), k ≤ x + j → lp_rFill x j v n k g i = g i := by
  intro n
  induction n with
  | zero => intro k g hk; rfl
  | succ n ih =>
    intro k g hk
    rw [lp_rFill]
    split
    · rfl
    · rename_i c1
      have h9 : k < x + j := kN (B := x + j) c1 (by omega) (by omega)
      rw [ih (k + 1) _ (by omega), pk_un (by omega)]
theorem fill_hi (g : Rw) {x j : Nat} (v : Int32) (h : x + j ≤ 80) {i : Nat} (hi : 87 ≤ i) : h_X7_fill g x j v i = g i := rFill_hi x j v h i hi _ _ _ (by omega)
theorem of_fill (g : Rw) {x j : Nat} (v : Int32) (h : x + j ≤ 80) (c w : Nat) : f_X7_of (h_X7_fill g x j v) c w = f_X7_of g c w := fill_hi g v h (by omega)

def h_X7_goes (g : Rw) (c : Nat) (sta : Int32) : Int32 × Rw :=
  (nI (px g c), (h_X7_lay (h_X7_lay (h_X7_fill g (px g c) (pj g c) (-1)) c 3 (-1)) c 2 sta))
theorem lgc_lt (x y : Int64) : lg_cmp x y < 0 ↔ x.toInt < y.toInt := by
  unfold lg_cmp
  simp only [gt_iff_lt, Int64.lt_iff_toInt_lt, ← Int64.toInt_inj]
  repeat' split
  all_goals first | (constructor <;> intro h <;> first | omega | exact absurd h (by decide)) | skip
  all_goals first | (constructor <;> intro h <;> first | omega | decide) | skip
theorem lgc_gt (x y : Int64) : 0 < lg_cmp x y ↔ y.toInt < x.toInt := by
  unfold lg_cmp
  simp only [gt_iff_lt, Int64.lt_iff_toInt_lt, ← Int64.toInt_inj]
  repeat' split
  all_goals first | (constructor <;> intro h <;> first | omega | exact absurd h (by decide)) | skip
  all_goals first | (constructor <;> intro h <;> first | omega | decide) | skip
theorem in_ne {v lo hi : Int64} (h : ¬ f_X7_in v lo hi = 0) : lo.toInt ≤ v.toInt ∧ v.toInt ≤ hi.toInt := by
  rw [f_X7_in] at h
  by_cases c1 : lg_cmp v lo < 0
  · rw [if_pos c1] at h
    exact absurd rfl h
  · rw [if_neg c1] at h
    by_cases c2 : 0 < lg_cmp v hi
    · rw [if_pos c2] at h
      exact absurd rfl h
    · rw [lgc_lt] at c1
      rw [lgc_gt] at c2
      omega
theorem i64 (x : Int32) : x.toInt64.toInt = x.toInt := Int32.toInt_toInt64 x
theorem rcell {x : Int32} (h : ¬ f_X7_isCell x = 0) : 0 ≤ x.toInt ∧ x.toInt < 80 := by
  rw [f_X7_isCell] at h
  have h1 := in_ne h
  rw [i64, show (0 : Int64).toInt = 0 by decide, show (79 : Int64).toInt = 79 by decide] at h1
  omega
theorem add7 {x : Int32} (h : 0 ≤ x.toInt ∧ x.toInt < 80) : (7 + x).toInt = 7 + x.toInt := by
  rw [Int32.toInt_add, show (7 : Int32).toInt = 7 by decide, Int.bmod_eq_of_le (by omega) (by omega)]
theorem cell_in {x : Int32} (h : ¬ f_X7_isCell x = 0) : vp_in (7 + x) 327 := by
  have h1 := rcell h
  have h2 := add7 h1
  exact vp_in_iff.mpr ⟨by omega, by omega⟩

def f_X7_canHydrant (g : Rw) (x : Int32) (on : Int32) : Int32 :=
  if (f_X7_isCell x) = 0 then 0 else
  if on = 0 then 1 else
  if (g (7 + x).toNatClampNeg) = (-1) then 1 else
  if (g (7 + x).toNatClampNeg) = 100 then 1 else
  0
theorem b_f_X7_canHydrant (g : Rw) (x : Int32) (on : Int32) : f_X7_canHydrant g x on = 0 ∨ f_X7_canHydrant g x on = 1 := by
  unfold f_X7_canHydrant
  repeat' split
  all_goals first | exact Or.inl rfl | exact Or.inr rfl

def h_X7_hydrantOn (g : Rw) (x : Nat) (on : Int32) : Int32 × Rw :=
  if (g (7 + x)) = 100 then (if on = 0 then (if (1 : Int32) = 0 then (f_X7_cellsWith (upd g (7 + x) (g (7 + x))) 100, (upd g (7 + x) (g (7 + x)))) else
      (f_X7_cellsWith (upd g (7 + x) (-1)) 100, (upd g (7 + x) (-1)))) else
    (f_X7_cellsWith (upd g (7 + x) 100) 100, (upd g (7 + x) 100))) else
  if on = 0 then (if (0 : Int32) = 0 then (f_X7_cellsWith (upd g (7 + x) (g (7 + x))) 100, (upd g (7 + x) (g (7 + x)))) else
    (f_X7_cellsWith (upd g (7 + x) (-1)) 100, (upd g (7 + x) (-1)))) else
  (f_X7_cellsWith (upd g (7 + x) 100) 100, (upd g (7 + x) 100))
def h_X7_change (g : Rw) (w : Nat) (v : Int32) : Int32 × Rw :=
  (g (2 + w), (upd g (2 + w) v))
theorem le_nI {a : Nat} (h : nI a ≤ 80) (ha : a < 2 ^ 31) : a ≤ 80 := by
  rw [Int32.le_iff_toInt_le, nI_toInt ha, show (80 : Int32).toInt = 80 by decide] at h
  omega
theorem le_nI' {a : Nat} (h : ¬ 80 < nI a) (ha : a < 2 ^ 31) : a ≤ 80 := by
  rw [Int32.lt_iff_toInt_lt, nI_toInt ha, show (80 : Int32).toInt = 80 by decide] at h
  omega

def lp_rClear (g : Rw) (c : Int32) (to : Nat) : Nat → Int32 → Nat → Int32
  | 0, is, _ => is
  | n + 1, is, k => if (nI to) ≤ (nI k) then is else
    if is = 0 then is else
    if (g (7 + k)) = (-1) then lp_rClear g c to n 1 (k + 1) else
    if (g (7 + k)) = c then lp_rClear g c to n 1 (k + 1) else
    lp_rClear g c to n 0 (k + 1)
def f_X7_isClear (g : Rw) (c : Int32) (fr : Nat) (to : Nat) : Int32 :=
  if 80 < (nI to) then lp_rClear g c to 81 0 fr else
  lp_rClear g c to 81 1 fr
theorem car_n {g : Rw} {c : Int32} {m : Nat} (hm : g 0 = nI m) (h40 : m ≤ 40) (h : ¬ f_X7_isCar g c = 0) : ∃ j, j < m ∧ c = nI j := by
  rw [f_X7_isCar] at h
  have h1 := in_ne h
  rw [i64, i64, hm, show (0 : Int64).toInt = 0 by decide] at h1
  have h2 : (nI m - 1).toInt = (m : Int) - 1 := by
    rw [Int32.toInt_sub, nI_toInt (by omega), show (1 : Int32).toInt = 1 by decide, Int.bmod_eq_of_le (by omega) (by omega)]
  rw [h2] at h1
  obtain ⟨j, hj, rfl⟩ := nI_of (x := c) (by rw [Int32.lt_iff_toInt_lt, Int32.toInt_zero]; omega)
  rw [nI_toInt hj] at h1
  exact ⟨j, by omega, rfl⟩
theorem car_40 {g : Rw} {c : Int32} (hm : ∃ m, m ≤ 40 ∧ g 0 = nI m) (h : ¬ f_X7_isCar g c = 0) : ∃ j, j < 40 ∧ c = nI j := by
  obtain ⟨m, h40, hm⟩ := hm
  obtain ⟨j, hj, e⟩ := car_n hm h40 h
  exact ⟨j, by omega, e⟩

def f_X7_isParked (g : Rw) (c : Int32) : Int32 :=
  if (f_X7_isCar g c) = 0 then 0 else
  if (f_X7_of g c.toNatClampNeg 2) = 0 then 1 else
  0
theorem b_f_X7_isParked (g : Rw) (c : Int32) : f_X7_isParked g c = 0 ∨ f_X7_isParked g c = 1 := by
  unfold f_X7_isParked
  repeat' split
  all_goals first | exact Or.inl rfl | exact Or.inr rfl

def f_X7_canMove (g : Rw) (c : Nat) (x : Nat) : Int32 :=
  if (f_X7_isParked g (nI c)) = 0 then 0 else
  if (f_X7_of g c 3) ≤ (nI x) then (if (f_X7_of g c 3) ≤ (nI x) then (if (f_X7_isClear g (nI c) (px g c) (x + (pj g c))) = 0 then 0 else
      1) else
    if (f_X7_isClear g (nI c) (px g c) ((px g c) + (pj g c))) = 0 then 0 else
    1) else
  if (f_X7_of g c 3) ≤ (nI x) then (if (f_X7_isClear g (nI c) x (x + (pj g c))) = 0 then 0 else
    1) else
  if (f_X7_isClear g (nI c) x ((px g c) + (pj g c))) = 0 then 0 else
  1
theorem b_f_X7_canMove (g : Rw) (c : Nat) (x : Nat) : f_X7_canMove g c x = 0 ∨ f_X7_canMove g c x = 1 := by
  unfold f_X7_canMove
  repeat' split
  all_goals first | exact Or.inl rfl | exact Or.inr rfl

def h_X7_moveOn (g : Rw) (c : Nat) (x : Nat) : Int32 × Rw :=
  if (nI (px g c)) ≤ (nI x) then ((nI x) - (nI (px g c)), (h_X7_lay (h_X7_fill (h_X7_fill g (px g c) (pj g c) (-1)) x (pj g c) (nI c)) c 3 (nI x))) else
  ((nI (px g c)) - (nI x), (h_X7_lay (h_X7_fill (h_X7_fill g (px g c) (pj g c) (-1)) x (pj g c) (nI c)) c 3 (nI x)))
-- 22.place.lean.txt
theorem wb_tb (n : Nat) : (lN n).toBitVec = BitVec.ofNat 64 n := rfl
theorem wb_inj {a b : Int64} (h : a.toBitVec = b.toBitVec) : a = b := Int64.toBitVec_inj.mp h
theorem wb_tn {n : Nat} (h : n < 2 ^ 64) : (lN n).toBitVec.toNat = n := by rw [wb_tb, BitVec.toNat_ofNat, Nat.mod_eq_of_lt h]
theorem wb_of (x : Int64) : ∃ n, n < 2 ^ 64 ∧ x = lN n := ⟨x.toBitVec.toNat, x.toBitVec.isLt, wb_inj (by rw [wb_tb]; simp)⟩
theorem wb_of32 (x : Int32) : ∃ n, n < 2 ^ 32 ∧ x = nI n := ⟨x.toBitVec.toNat, x.toBitVec.isLt, Int32.toBitVec_inj.mp (by show _ = BitVec.ofNat 32 _; simp)⟩
theorem wb_c : ∀ k, k < 64 → ((nI k).toInt64 &&& 63) = lN k := by decide +kernel
theorem wb_cu : ∀ k, k < 64 → ((nI k).toInt64.toUInt64 &&& Int64.toUInt64 63) = UInt64.ofNat k := by decide +kernel
theorem wb_sm : ∀ k, k < 64 → (BitVec.ofNat 64 k).smod 64 = BitVec.ofNat 64 k := by decide +kernel
theorem wb_pw {a b : Nat} (h : a ≤ b) : 2 ^ b = 2 ^ a * 2 ^ (b - a) := by rw [← Nat.pow_add]; congr 1; omega
theorem wb_lt2 {a b : Nat} (h : a < b) : 2 ^ a < 2 ^ b := Nat.pow_lt_pow_right (by decide) h
theorem wb_mod (n : Nat) : lN n = lN (n % 2 ^ 64) := wb_inj (by rw [wb_tb, wb_tb]; apply BitVec.eq_of_toNat_eq; rw [BitVec.toNat_ofNat, BitVec.toNat_ofNat, Nat.mod_mod])
theorem wb_shr {n k : Nat} (hn : n < 2 ^ 64) (hk : k < 64) : ((lN n).toUInt64 >>> ((nI k).toInt64.toUInt64 &&& Int64.toUInt64 63)).toInt64 = lN (n / 2 ^ k) := by
  rw [wb_cu k hk]
  apply wb_inj
  apply BitVec.eq_of_toNat_eq
  show ((lN n).toUInt64 >>> UInt64.ofNat k).toNat = (BitVec.ofNat 64 _).toNat
  have h1 : (UInt64.ofNat k).toNat = k := by
    show (BitVec.ofNat 64 k).toNat = k
    rw [BitVec.toNat_ofNat, Nat.mod_eq_of_lt (by omega)]
  have h2 : (lN n).toUInt64.toNat = n := wb_tn hn
  rw [UInt64.toNat_shiftRight, h1, h2, Nat.mod_eq_of_lt hk, Nat.shiftRight_eq_div_pow, BitVec.toNat_ofNat, Nat.mod_eq_of_lt (Nat.lt_of_le_of_lt (Nat.div_le_self _ _) hn)]
theorem ush_n (x : Int64) : ∃ i, i < 2 ^ 31 ∧ (jUshr x 33).toInt32 = nI i := by
  obtain ⟨n, hn, rfl⟩ := wb_of x
  refine ⟨n / 2 ^ 33, Nat.div_lt_of_lt_mul (by omega), ?_⟩
  have h : jUshr (lN n) 33 = lN (n / 2 ^ 33) := wb_shr (k := 33) hn (by decide)
  rw [h, lN_i]
/-- a place that was found: the car fits there -/
def plOk (r : Int32) (j : Nat) : Prop := r = -1 ∨ ∃ x, r = nI x ∧ x + j ≤ 80
theorem key_room {g : Rw} {j r k : Nat} (hj : j ≤ 8) (hr : r ≤ 4) (h3 : g 3 = nI r) (hk : k ≤ 80) : (nI (f_X7_gapCells g k) < nI j + g 3 ↔ f_X7_gapCells g k < j + r) ∧ k + f_X7_gapCells g k ≤ 80 := by
  have h1 := cells_le g hk
  refine ⟨?_, h1⟩
  rw [h3, nI_add]
  exact nI_ltI (by omega) (by omega)
theorem rRule_ok {g : Rw} {j r : Nat} (hj : j ≤ 8) (hr : r ≤ 4) (h3 : g 3 = nI r) : ∀ (n : Nat) (best : Int32) (k : Nat), k ≤ 80 → 80 < k + n → plOk best j → plOk (lp_rRule g (nI j) n best k) j := by
  intro n
  induction n with
  | zero => intro best k hk hn hb; exact hb
  | succ n ih =>
    intro best k hk hn hb
    rw [lp_rRule]
    by_cases c1 : (80 : Int32) ≤ nI k
    · rw [if_pos c1]
      exact hb
    · rw [if_neg c1]
      have hlt : k < 80 := kN (B := 80) c1 (by omega) (by omega)
      have hx := next_gt g hlt
      have i1 := ih best _ hx.2 (by omega) hb
      obtain ⟨e1, e2⟩ := key_room hj hr h3 (g := g) hk
      by_cases c2 : nI (f_X7_gapCells g k) < nI j + g 3
      · rw [if_pos c2, if_pos rfl]
        exact i1
      · have i2 := ih (nI k) _ hx.2 (by omega) (Or.inr ⟨k, rfl, by rw [e1] at c2; omega⟩)
        rw [if_neg c2]
        repeat' split
        all_goals first | exact i1 | exact i2
theorem byRule_ok {g : Rw} {j r : Nat} (hj : j ≤ 8) (hr : r ≤ 4) (h3 : g 3 = nI r) : plOk (f_X7_byRule g (nI j)) j := rRule_ok hj hr h3 _ _ _ (from_le g (by omega)).2 (by omega) (Or.inl rfl)
theorem rPick_ok {g : Rw} {j r : Nat} (hj : j ≤ 8) (hr : r ≤ 4) (h3 : g 3 = nI r) : ∀ (n i k : Nat), i < 2 ^ 31 → k ≤ 80 → 80 < k + n → plOk (lp_rPick (nI j) n (nI i) k g).1 j := by
  intro n
  induction n with
  | zero => intro i k hi hk hn; omega
  | succ n ih =>
    intro i k hi hk hn
    rw [lp_rPick]
    by_cases c1 : (80 : Int32) ≤ nI k
    · rw [if_pos c1]
      exact Or.inl rfl
    · rw [if_neg c1]
      have hlt : k < 80 := kN (B := 80) c1 (by omega) (by omega)
      have hx := next_gt g hlt
      obtain ⟨e1, e2⟩ := key_room hj hr h3 (g := g) hk
      by_cases c2 : nI (f_X7_gapCells g k) < nI j + g 3
      · rw [if_pos c2, if_pos (show (0 : Int32) ≤ nI i from nI_pos' hi), show nI i - 0 = nI i from pk_sub (Nat.zero_le i)]
        exact ih i _ hi hx.2 (by omega)
      · rw [if_neg c2]
        rw [e1] at c2
        have e3 : nI (f_X7_gapCells g k) - nI j + 1 = nI (f_X7_gapCells g k - j + 1) := by rw [pk_sub (by omega), nI_1]
        rw [e3]
        by_cases c3 : nI (f_X7_gapCells g k - j + 1) ≤ nI i
        · rw [if_pos c3]
          rw [nI_leI (by omega) hi] at c3
          rw [pk_sub c3]
          exact ih _ _ (by omega) hx.2 (by omega)
        · rw [if_neg c3]
          rw [nI_leI (by omega) hi] at c3
          exact Or.inr ⟨k + i, nI_add k i, by omega⟩
theorem lay_3 (g : Rw) (x : Int64) {i : Nat} (h : i ≠ 5) (h6 : i ≠ 6) : h_X7_layChance g x i = g i := by
  rw [h_X7_layChance, pk_un h6, pk_un h]
theorem rAll_ok {g : Rw} {j r : Nat} (hj : j ≤ 8) (hr : r ≤ 4) (h3 : g 3 = nI r) : ∀ (n t k : Nat), t + (80 - k) * 82 < 10000 → k ≤ 80 → 80 < k + n → plOk (lp_rAll g (nI j) n (nI t) k).1 j := by
  intro n
  induction n with
  | zero => intro t k ht hk hn; omega
  | succ n ih =>
    intro t k ht hk hn
    rw [lp_rAll]
    by_cases c1 : (80 : Int32) ≤ nI k
    · rw [if_pos c1]
      by_cases c2 : nI t = 0
      · rw [if_pos c2]
        exact Or.inl rfl
      · rw [if_neg c2]
        obtain ⟨i, hi, e⟩ := ush_n (f_X7_chance g * 6364136223846793005 + 1442695040888963407)
        have t0 : 0 < t := Nat.pos_of_ne_zero fun z => c2 (by rw [z]; rfl)
        rw [e, pk_rem hi t0 (by omega)]
        exact rPick_ok hj hr ((lay_3 g _ (by decide) (by decide)).trans h3) _ _ _ (Nat.lt_of_lt_of_le (Nat.mod_lt _ t0) (by omega)) (from_le _ (by omega)).2 (by omega)
    · rw [if_neg c1]
      have hlt : k < 80 := kN (B := 80) c1 (by omega) (by omega)
      have hx := next_gt g hlt
      obtain ⟨e1, e2⟩ := key_room hj hr h3 (g := g) hk
      by_cases c2 : nI (f_X7_gapCells g k) < nI j + g 3
      · rw [if_pos c2, show nI t + 0 = nI t from nI_add t 0]
        exact ih t _ (by omega) hx.2 (by omega)
      · rw [if_neg c2]
        rw [e1] at c2
        rw [pk_sub (by omega), nI_1, nI_add]
        exact ih _ _ (by omega) hx.2 (by omega)
theorem byChance_ok {g : Rw} {j r : Nat} (hj : j ≤ 8) (hr : r ≤ 4) (h3 : g 3 = nI r) : plOk (h_X7_byChance g (nI j)).1 j := rAll_ok hj hr h3 _ 0 _ (by have := from_le g (j := 0) (by omega); omega) (from_le g (by omega)).2 (by omega)
theorem place_ok {g : Rw} {j r : Nat} (hj : j ≤ 8) (hr : r ≤ 4) (h3 : g 3 = nI r) : plOk (h_X7_placeFor g (nI j)).1 j := by
  rw [h_X7_placeFor]
  split
  · exact byChance_ok hj hr h3
  · exact byRule_ok hj hr h3
theorem pl_n {r : Int32} {j : Nat} (h : plOk r j) (hn : ¬ r = -1) : r = nI r.toNatClampNeg ∧ r.toNatClampNeg + j ≤ 80 := by
  rcases h with z | ⟨x, e, hx⟩
  · exact absurd z hn
  · rw [e, nI_clamp (by omega)]
    exact ⟨rfl, hx⟩

-- 23.ref3.lean.txt
theorem place_okE {g : Rw} {j : Nat} (hj : j ≤ 8) (h3 : ∃ r, r ≤ 4 ∧ g 3 = nI r) : plOk (h_X7_placeFor g (nI j)).1 j := by
  obtain ⟨r, hr, h3⟩ := h3
  exact place_ok hj hr h3
theorem rPick_g (len : Int32) : ∀ (n : Nat) (left : Int32) (k : Nat) (g : Rw), (lp_rPick len n left k g).2 = g := by
  intro n
  induction n with
  | zero => intro left k g; rfl
  | succ n ih =>
    intro left k g
    rw [lp_rPick]
    repeat' split
    all_goals first | rfl | exact ih ..
theorem rAll_g (g : Rw) (len : Int32) {i : Nat} (h5 : i ≠ 5) (h6 : i ≠ 6) : ∀ (n : Nat) (t : Int32) (k : Nat), (lp_rAll g len n t k).2 i = g i := by
  intro n
  induction n with
  | zero => intro t k; rfl
  | succ n ih =>
    intro t k
    rw [lp_rAll]
    repeat' split
    all_goals first | rfl | exact ih .. | (rw [rPick_g]; exact lay_3 g _ h5 h6)
theorem place_g (g : Rw) (len : Int32) {i : Nat} (h5 : i ≠ 5) (h6 : i ≠ 6) : (h_X7_placeFor g len).2 i = g i := by
  rw [h_X7_placeFor]
  split
  · exact rAll_g g len h5 h6 _ _ _
  · rfl
theorem of_place (g : Rw) (len : Int32) (c w : Nat) : f_X7_of (h_X7_placeFor g len).2 c w = f_X7_of g c w := place_g g len (by omega) (by omega)
theorem of_lay_eq (g : Rw) (c w : Nat) (v : Int32) : f_X7_of (h_X7_lay g c w v) c w = v := by rw [f_X7_of, h_X7_lay, pk_us]
theorem of_lay_ne (g : Rw) {c w d u : Nat} (v : Int32) (hw : w < 6) (hu : u < 6) (h : c ≠ d ∨ w ≠ u) : f_X7_of (h_X7_lay g c w v) d u = f_X7_of g d u := by
  rw [f_X7_of, h_X7_lay, pk_un (by omega), f_X7_of]
theorem lay_lo (g : Rw) {c w i : Nat} (v : Int32) (h : i < 87) : h_X7_lay g c w v i = g i := by rw [h_X7_lay, pk_un (by omega)]
theorem of_upd (g : Rw) {i c w : Nat} (v : Int32) (h : i < 87) : f_X7_of (upd g i v) c w = f_X7_of g c w := by rw [f_X7_of, pk_un (by omega), f_X7_of]
theorem pj_self {g : Rw} {c j : Nat} (h : f_X7_of g c 0 = nI j) (hj : j ≤ 8) : f_X7_of g c 0 = nI (pj g c) ∧ pj g c = j := by
  have e : pj g c = j := by rw [pj, h, nI_clamp (by omega)]
  exact ⟨by rw [e]; exact h, e⟩
theorem px_self {g : Rw} {c x : Nat} (h : f_X7_of g c 3 = nI x) (hx : x ≤ 80) : f_X7_of g c 3 = nI (px g c) ∧ px g c = x := by
  have e : px g c = x := by rw [px, h, nI_clamp (by omega)]
  exact ⟨by rw [e]; exact h, e⟩

def h_X7_parks (g : Rw) (c : Nat) : Int32 × Rw :=
  if ((h_X7_placeFor g (nI (pj g c))).1) = (-1) then (if ((h_X7_placeFor g (nI (pj g c))).1) = (-1) then (0, (h_X7_placeFor g (nI (pj g c))).2) else
    (1, (h_X7_placeFor g (nI (pj g c))).2)) else
  if ((h_X7_placeFor g (nI (pj g c))).1) = (-1) then (0, (h_X7_lay (h_X7_lay (h_X7_fill ((h_X7_placeFor g (nI (pj g c))).2) (((h_X7_placeFor g (nI (pj g c))).1).toNatClampNeg) (pj g c) (nI c)) c 3 ((h_X7_placeFor g (nI (pj g c))).1)) c 2 0)) else
  (1, (h_X7_lay (h_X7_lay (h_X7_fill ((h_X7_placeFor g (nI (pj g c))).2) (((h_X7_placeFor g (nI (pj g c))).1).toNatClampNeg) (pj g c) (nI c)) c 3 ((h_X7_placeFor g (nI (pj g c))).1)) c 2 0))
theorem b_h_X7_parks (g : Rw) (c : Nat) : (h_X7_parks g c).1 = 0 ∨ (h_X7_parks g c).1 = 1 := by
  unfold h_X7_parks
  repeat' split
  all_goals first | exact Or.inl rfl | exact Or.inr rfl

def gm (g : Rw) : Nat := (g 0).toNatClampNeg
theorem come_of (g : Rw) (c : Nat) (len stay z : Int32) : f_X7_of (upd (h_X7_lay (h_X7_lay (h_X7_lay (h_X7_lay (h_X7_lay (h_X7_lay g c 0 len) c 1 stay) c 2 1) c 3 (-1)) c 4 0) c 5 0) 0 z) c 0 = len := by
  rw [of_upd _ _ (by omega), of_lay_ne _ _ (by omega) (by omega) (Or.inr (by omega)), of_lay_ne _ _ (by omega) (by omega) (Or.inr (by omega)), of_lay_ne _ _ (by omega) (by omega) (Or.inr (by omega)), of_lay_ne _ _ (by omega) (by omega) (Or.inr (by omega)), of_lay_ne _ _ (by omega) (by omega) (Or.inr (by omega)), of_lay_eq]
theorem come_3 (g : Rw) (c : Nat) (len stay z : Int32) : (upd (h_X7_lay (h_X7_lay (h_X7_lay (h_X7_lay (h_X7_lay (h_X7_lay g c 0 len) c 1 stay) c 2 1) c 3 (-1)) c 4 0) c 5 0) 0 z) 3 = g 3 := by
  rw [pk_un (by omega), lay_lo _ _ (by omega), lay_lo _ _ (by omega), lay_lo _ _ (by omega), lay_lo _ _ (by omega), lay_lo _ _ (by omega), lay_lo _ _ (by omega)]

def h_X7_comeOn (g : Rw) (len : Int32) (stay : Int32) : Int32 × Rw :=
  (nI (gm g), (h_X7_parks (upd (h_X7_lay (h_X7_lay (h_X7_lay (h_X7_lay (h_X7_lay (h_X7_lay g (gm g) 0 len) (gm g) 1 stay) (gm g) 2 1) (gm g) 3 (-1)) (gm g) 4 0) (gm g) 5 0) 0 (((h_X7_lay (h_X7_lay (h_X7_lay (h_X7_lay (h_X7_lay (h_X7_lay g (gm g) 0 len) (gm g) 1 stay) (gm g) 2 1) (gm g) 3 (-1)) (gm g) 4 0) (gm g) 5 0) 0) + 1)) (gm g)).2)
-- 24.ref4.lean.txt
def RC (g : Rw) (c : Nat) : Prop := (∃ j, 2 ≤ j ∧ j ≤ 8 ∧ f_X7_of g c 0 = nI j) ∧ (f_X7_of g c 2 = 0 → ∃ x, f_X7_of g c 3 = nI x ∧ x + pj g c ≤ 80)
/-- what the reference's row always holds -/
def RI (g : Rw) : Prop := (∃ m, m ≤ 40 ∧ g 0 = nI m) ∧ (∃ r, r ≤ 4 ∧ g 3 = nI r) ∧ ∀ c, c < gm g → RC g c
theorem RI.m {g : Rw} (h : RI g) : g 0 = nI (gm g) ∧ gm g ≤ 40 := by
  obtain ⟨⟨m, hm, e⟩, -⟩ := h
  have e2 : gm g = m := by rw [gm, e, nI_clamp (by omega)]
  rw [e2]
  exact ⟨e, hm⟩
theorem RC_same {g g' : Rw} {c : Nat} (h : RC g c) (e0 : f_X7_of g' c 0 = f_X7_of g c 0) (e2 : f_X7_of g' c 2 = f_X7_of g c 2) (e3 : f_X7_of g' c 3 = f_X7_of g c 3) : RC g' c := by
  have ep : pj g' c = pj g c := by rw [pj, e0, pj]
  unfold RC
  rw [e0, e2, e3, ep]
  exact h
theorem RI_same {g g' : Rw} (h : RI g) (h0 : g' 0 = g 0) (h3 : g' 3 = g 3) (hc : ∀ c, c < gm g → RC g c → RC g' c) : RI g' := by
  obtain ⟨a, b, d⟩ := h
  have e : gm g' = gm g := by rw [gm, h0, gm]
  exact ⟨by rw [h0]; exact a, by rw [h3]; exact b, fun c hcm => hc c (by rw [← e]; exact hcm) (d c (by rw [← e]; exact hcm))⟩
theorem RI_lay {g : Rw} {c w : Nat} {v : Int32} (h : RI g) (hw : w < 6) (h0 : w ≠ 0) (h2 : w ≠ 2) (h3 : w ≠ 3) : RI (h_X7_lay g c w v) :=
  RI_same h (lay_lo g v (by omega)) (lay_lo g v (by omega)) fun d _ r => RC_same r (of_lay_ne g v hw (by omega) (Or.inr h0)) (of_lay_ne g v hw (by omega) (Or.inr h2)) (of_lay_ne g v hw (by omega) (Or.inr h3))
theorem RI_lay2 {g : Rw} {c : Nat} {v : Int32} (h : RI g) (hv : v ≠ 0) : RI (h_X7_lay g c 2 v) :=
  RI_same h (lay_lo g v (by omega)) (lay_lo g v (by omega)) fun d _ r => by
    by_cases e : d = c
    · subst e
      have e0 := of_lay_ne g (c := d) (d := d) (w := 2) (u := 0) v (by omega) (by omega) (Or.inr (by omega))
      refine ⟨by rw [e0]; exact r.1, fun z => ?_⟩
      rw [of_lay_eq] at z
      exact absurd z hv
    · exact RC_same r (of_lay_ne g v (by omega) (by omega) (Or.inl (Ne.symm e))) (of_lay_ne g v (by omega) (by omega) (Or.inl (Ne.symm e))) (of_lay_ne g v (by omega) (by omega) (Or.inl (Ne.symm e)))
theorem rFill_lo (x j : Nat) (v : Int32) (i : Nat) (hi : i < 7) : ∀ (n k : Nat) (g : Rw), lp_rFill x j v n k g i = g i := by
  intro n
  induction n with
  | zero => intro k g; rfl
  | succ n ih =>
    intro k g
    rw [lp_rFill]
    split
    · rfl
    · rw [ih, pk_un (by omega)]
theorem fill_lo (g : Rw) (x j : Nat) (v : Int32) {i : Nat} (hi : i < 7) : h_X7_fill g x j v i = g i := rFill_lo x j v i hi _ _ _
theorem RI_fill {g : Rw} {x j : Nat} {v : Int32} (h : RI g) (hx : x + j ≤ 80) : RI (h_X7_fill g x j v) :=
  RI_same h (fill_lo g x j v (by omega)) (fill_lo g x j v (by omega)) fun d _ r => RC_same r (of_fill g v hx d 0) (of_fill g v hx d 2) (of_fill g v hx d 3)
/-- state and place of one car anew -/
theorem RI_two {g : Rw} {c : Nat} {v u : Int32} (h : RI g) (hk : v = 0 → ∃ x, u = nI x ∧ x + pj g c ≤ 80) : RI (h_X7_lay (h_X7_lay g c 3 u) c 2 v) :=
  RI_same h ((lay_lo _ v (by omega)).trans (lay_lo g u (by omega))) ((lay_lo _ v (by omega)).trans (lay_lo g u (by omega))) fun d _ r => by
    have f0 : f_X7_of (h_X7_lay (h_X7_lay g c 3 u) c 2 v) d 0 = f_X7_of g d 0 := by rw [of_lay_ne _ _ (by omega) (by omega) (Or.inr (by omega)), of_lay_ne _ _ (by omega) (by omega) (Or.inr (by omega))]
    by_cases e : d = c
    · subst e
      have ep : pj (h_X7_lay (h_X7_lay g d 3 u) d 2 v) d = pj g d := by rw [pj, f0, pj]
      refine ⟨by rw [f0]; exact r.1, fun z => ?_⟩
      rw [of_lay_eq] at z
      rw [of_lay_ne _ _ (by omega) (by omega) (Or.inr (by omega)), of_lay_eq, ep]
      exact hk z
    · refine RC_same r f0 ?_ ?_
      · rw [of_lay_ne _ _ (by omega) (by omega) (Or.inl (Ne.symm e)), of_lay_ne _ _ (by omega) (by omega) (Or.inl (Ne.symm e))]
      · rw [of_lay_ne _ _ (by omega) (by omega) (Or.inl (Ne.symm e)), of_lay_ne _ _ (by omega) (by omega) (Or.inl (Ne.symm e))]
theorem RI.J {g : Rw} (h : RI g) {c : Nat} (hc : c < gm g) : f_X7_of g c 0 = nI (pj g c) ∧ pj g c ≤ 8 ∧ 2 ≤ pj g c := by
  obtain ⟨⟨j, h2, h8, e⟩, -⟩ := h.2.2 c hc
  have q := pj_self e h8
  exact ⟨q.1, by rw [q.2]; exact h8, by rw [q.2]; exact h2⟩
theorem RI.X {g : Rw} (h : RI g) {c : Nat} (hc : c < gm g) (hp : f_X7_of g c 2 = 0) : f_X7_of g c 3 = nI (px g c) ∧ f_X7_of g c 0 = nI (pj g c) ∧ px g c + pj g c ≤ 80 := by
  obtain ⟨x, e, hx⟩ := (h.2.2 c hc).2 hp
  have q := px_self e (by omega)
  exact ⟨q.1, (h.J hc).1, by rw [q.2]; exact hx⟩
theorem gm_lay (g : Rw) (c w : Nat) (v : Int32) : gm (h_X7_lay g c w v) = gm g := by rw [gm, lay_lo _ _ (by omega), gm]
theorem RI_goes {g : Rw} (h : RI g) {c : Nat} {sta : Int32} (hx : px g c + pj g c ≤ 80) (hs : sta ≠ 0) : RI (h_X7_goes g c sta).2 := by
  rw [h_X7_goes]
  exact RI_two (RI_fill h hx) fun z => absurd z hs
theorem goes_lo (g : Rw) (c : Nat) (sta : Int32) {i : Nat} (hi : i < 7) : (h_X7_goes g c sta).2 i = g i := by
  rw [h_X7_goes]
  show h_X7_lay _ _ _ _ i = _
  rw [lay_lo _ _ (by omega), lay_lo _ _ (by omega), fill_lo _ _ _ _ hi]
theorem RI_place {g : Rw} (h : RI g) (len : Int32) : RI (h_X7_placeFor g len).2 :=
  RI_same h (place_g g len (by omega) (by omega)) (place_g g len (by omega) (by omega)) fun d _ r => RC_same r (of_place g len d 0) (of_place g len d 2) (of_place g len d 3)
theorem RI_parks {g : Rw} (h : RI g) {c : Nat} (hc : c < gm g) : RI (h_X7_parks g c).2 := by
  have q := h.J hc
  rw [h_X7_parks]
  by_cases c1 : (h_X7_placeFor g (nI (pj g c))).1 = -1
  · rw [if_pos c1]
    repeat' split
    all_goals exact RI_place h _
  · have p := pl_n (place_okE q.2.1 h.2.1) c1
    have r : RI (h_X7_lay (h_X7_lay (h_X7_fill (h_X7_placeFor g (nI (pj g c))).2 ((h_X7_placeFor g (nI (pj g c))).1).toNatClampNeg (pj g c) (nI c)) c 3 (h_X7_placeFor g (nI (pj g c))).1) c 2 0) :=
      RI_two (RI_fill (RI_place h _) p.2) fun _ => ⟨_, p.1, by rw [show pj (h_X7_fill (h_X7_placeFor g (nI (pj g c))).2 ((h_X7_placeFor g (nI (pj g c))).1).toNatClampNeg (pj g c) (nI c)) c = pj g c by rw [pj, of_fill _ _ p.2, of_place, pj]]; exact p.2⟩
    rw [if_neg c1]
    repeat' split
    all_goals exact r
theorem parks_lo (g : Rw) (c : Nat) {i : Nat} (hi : i < 5) : (h_X7_parks g c).2 i = g i := by
  rw [h_X7_parks]
  repeat' split
  all_goals first | exact place_g g _ (by omega) (by omega) | (show h_X7_lay _ _ _ _ i = _; rw [lay_lo _ _ (by omega), lay_lo _ _ (by omega), fill_lo _ _ _ _ (by omega), place_g g _ (by omega) (by omega)])

def lp_rRound (g : Rw) : Nat → Int32 → Nat → Rw → Int32 × Rw
  | 0, acc, _, g2 => (acc, g2)
  | n + 1, acc, k, g2 => if (g2 0) ≤ (nI k) then (acc, g2) else
    if (f_X7_of g2 k 2) = 1 then (if ((h_X7_parks g2 k).1) = 0 then (if (f_X7_of (h_X7_lay ((h_X7_parks g2 k).2) k 5 ((f_X7_of ((h_X7_parks g2 k).2) k 5) + 1)) k 5) < ((h_X7_lay ((h_X7_parks g2 k).2) k 5 ((f_X7_of ((h_X7_parks g2 k).2) k 5) + 1)) 4) then lp_rRound g n acc (k + 1) (h_X7_lay (h_X7_lay ((h_X7_parks g2 k).2) k 5 ((f_X7_of ((h_X7_parks g2 k).2) k 5) + 1)) k 2 1) else
        lp_rRound g n acc (k + 1) (h_X7_lay (h_X7_lay ((h_X7_parks g2 k).2) k 5 ((f_X7_of ((h_X7_parks g2 k).2) k 5) + 1)) k 2 3)) else
      lp_rRound g n (acc + 1) (k + 1) ((h_X7_parks g2 k).2)) else
    lp_rRound g n acc (k + 1) g2
def lp_rLeave (g : Rw) : Nat → Nat → Rw → Int32 × Rw
  | 0, _, g2 => (0, g2)
  | n + 1, k, g2 => if (g2 0) ≤ (nI k) then lp_rRound g ((g 0).toNatClampNeg + 1) 0 0 g2 else
    if (f_X7_of g2 k 2) = 0 then (if (f_X7_of (h_X7_lay g2 k 4 ((f_X7_of g2 k 4) + 1)) k 4) < (f_X7_of (h_X7_lay g2 k 4 ((f_X7_of g2 k 4) + 1)) k 1) then lp_rLeave g n (k + 1) (h_X7_lay g2 k 4 ((f_X7_of g2 k 4) + 1)) else
      lp_rLeave g n (k + 1) ((h_X7_goes (h_X7_lay g2 k 4 ((f_X7_of g2 k 4) + 1)) k 2).2)) else
    lp_rLeave g n (k + 1) g2
def h_X7_minute (g : Rw) : Int32 × Rw :=
  lp_rLeave g ((g 0).toNatClampNeg + 1) 0 (upd g 1 ((g 1) + 1))
-- 25.ref5.lean.txt
theorem rRound_ok (g : Rw) : ∀ (n : Nat) (acc : Int32) (k : Nat) (g2 : Rw), k + n = gm g + 1 → RI g2 → g2 0 = g 0 → RI (lp_rRound g n acc k g2).2 ∧ (lp_rRound g n acc k g2).2 0 = g 0 := by
  intro n
  induction n with
  | zero => intro acc k g2 _ h h0; exact ⟨h, h0⟩
  | succ n ih =>
    intro acc k g2 hn h h0
    rw [lp_rRound]
    by_cases c1 : g2 0 ≤ nI k
    · rw [if_pos c1]
      exact ⟨h, h0⟩
    · rw [if_neg c1]
      have hb := clamp_lt (g 0)
      have hk : k < gm g2 := kV c1 (by rw [gm] at hn; omega)
      have p := RI_parks h hk
      have p0 := (parks_lo g2 k (i := 0) (by omega)).trans h0
      have i1 := ih acc (k + 1) g2 (by omega) h h0
      have i2 := ih (acc + 1) (k + 1) _ (by omega) p p0
      have i3 : ∀ u v : Int32, v ≠ 0 → RI (lp_rRound g n acc (k + 1) (h_X7_lay (h_X7_lay (h_X7_parks g2 k).2 k 5 u) k 2 v)).2 ∧ (lp_rRound g n acc (k + 1) (h_X7_lay (h_X7_lay (h_X7_parks g2 k).2 k 5 u) k 2 v)).2 0 = g 0 := fun u v hv =>
        ih acc (k + 1) _ (by omega) (RI_lay2 (RI_lay p (by omega) (by omega) (by omega) (by omega)) hv) ((lay_lo _ _ (by omega)).trans ((lay_lo _ _ (by omega)).trans p0))
      repeat' split
      all_goals first | exact i1 | exact i2 | exact i3 _ _ (by decide)
theorem rLeave_ok (g : Rw) : ∀ (n k : Nat) (g2 : Rw), k + n = gm g + 1 → RI g2 → g2 0 = g 0 → RI (lp_rLeave g n k g2).2 ∧ (lp_rLeave g n k g2).2 0 = g 0 := by
  intro n
  induction n with
  | zero => intro k g2 _ h h0; exact ⟨h, h0⟩
  | succ n ih =>
    intro k g2 hn h h0
    rw [lp_rLeave]
    by_cases c1 : g2 0 ≤ nI k
    · rw [if_pos c1]
      exact rRound_ok g _ _ _ _ (by rw [gm]; omega) h h0
    · rw [if_neg c1]
      have hb := clamp_lt (g 0)
      have hk : k < gm g2 := kV c1 (by rw [gm] at hn; omega)
      by_cases c2 : f_X7_of g2 k 2 = 0
      · rw [if_pos c2]
        have r4 := fun v => RI_lay (w := 4) (c := k) (v := v) h (by omega) (by omega) (by omega) (by omega)
        have x4 := fun v => RI.X (r4 v) (by rw [gm_lay]; exact hk) ((of_lay_ne g2 v (by omega) (by omega) (Or.inr (by omega))).trans c2)
        have i2 := fun v => ih (k + 1) _ (by omega) (RI_goes (sta := 2) (r4 v) (x4 v).2.2 (by decide)) ((goes_lo _ _ _ (by omega)).trans ((lay_lo g2 v (by omega)).trans h0))
        have i1 := fun v => ih (k + 1) _ (by omega) (r4 v) ((lay_lo g2 v (by omega)).trans h0)
        repeat' split
        all_goals first | exact i1 _ | exact i2 _
      · rw [if_neg c2]
        exact ih (k + 1) g2 (by omega) h h0
theorem minute_ok {g : Rw} (h : RI g) : RI (h_X7_minute g).2 ∧ (h_X7_minute g).2 0 = g 0 := by
  rw [h_X7_minute]
  exact rLeave_ok g _ _ _ (by rw [gm]; omega) (RI_same h (pk_un (by omega)) (pk_un (by omega)) fun d _ r => RC_same r (of_upd _ _ (by omega)) (of_upd _ _ (by omega)) (of_upd _ _ (by omega))) (pk_un (by omega))

def lp_rMin (x : Int32) : Nat → Nat → Int32 → Rw → Int32 × Rw
  | 0, _, acc, g2 => (acc, g2)
  | n + 1, k, acc, g2 => if x ≤ (nI k) then (acc, g2) else
    lp_rMin x n (k + 1) (acc + ((h_X7_minute g2).1)) ((h_X7_minute g2).2)
def h_X7_minutesOn (g : Rw) (x : Int32) : Int32 × Rw :=
  lp_rMin x (x.toNatClampNeg + 1) 0 0 g
theorem parked_n {g : Rw} (h : RI g) {c : Nat} (hc : c < 2 ^ 31) (hp : ¬ f_X7_isParked g (nI c) = 0) : c < gm g ∧ f_X7_of g c 2 = 0 := by
  have hm := h.m
  rw [f_X7_isParked] at hp
  by_cases c1 : f_X7_isCar g (nI c) = 0
  · rw [if_pos c1] at hp
    exact absurd rfl hp
  · obtain ⟨j, hj, e⟩ := car_n hm.1 hm.2 c1
    rw [nI_eq hc (by omega)] at e
    subst e
    rw [if_neg c1, nI_clamp (by omega)] at hp
    refine ⟨hj, ?_⟩
    by_cases c2 : f_X7_of g c 2 = 0
    · exact c2
    · rw [if_neg c2] at hp
      exact absurd rfl hp
theorem RI.P {g : Rw} (h : RI g) {c : Nat} (hc : c < 2 ^ 31) (hp : ¬ f_X7_isParked g (nI c) = 0) : c < 40 ∧ f_X7_of g c 3 = nI (px g c) ∧ f_X7_of g c 0 = nI (pj g c) ∧ px g c + pj g c ≤ 80 := by
  have q := parked_n h hc hp
  have hm := h.m
  exact ⟨by omega, h.X q.1 q.2⟩
theorem RI.M {g : Rw} (h : RI g) : ∃ m, m ≤ 40 ∧ g 0 = nI m := h.1
theorem gm40 {g : Rw} (h : RI g) (hc : ¬ (40 : Int32) ≤ g 0) : gm g < 40 := by
  have hm := h.m
  rw [hm.1] at hc
  exact kN (B := 40) hc (by omega) (by omega)

def h_X7_turnOf (g : Rw) (how : Int32) (q : Nat) : Rw :=
  if 3 ≤ how then (if how = 3 then (if (f_X7_isParked g (nI (q % 40))) = 0 then g else
      (h_X7_goes g (q % 40) 2).2) else
    if how = 4 then (if (nI ((q / 128) % 3)) = 0 then (if (f_X7_canHydrant g (nI (q % 80)) 0) = 0 then g else
        (h_X7_hydrantOn g (q % 80) 0).2) else
      if (f_X7_canHydrant g (nI (q % 80)) 1) = 0 then g else
      (h_X7_hydrantOn g (q % 80) 1).2) else
    if how ≤ 5 then (if (nI ((q / 4) % 2)) = 0 then (h_X7_change g 0 (nI (q % 3))).2 else
      (h_X7_change g 1 (nI ((q / 8) % 5))).2) else
    (h_X7_minutesOn g (nI (1 + (q % 9)))).2) else
  if 40 ≤ (g 0) then g else
  (h_X7_comeOn g (nI (2 + (q % 7))) (nI (1 + ((q / 8) % 30)))).2
def lp_rFits (g : Rw) (len : Int32) : Nat → Int32 → Nat → Int32
  | 0, acc, _ => acc
  | n + 1, acc, k => if 80 ≤ (nI k) then acc else
    if ((nI (f_X7_gapCells g k)) - (g 3)) ≤ 0 then lp_rFits g len n (acc + 0) (f_X7_nextGap g k) else
    lp_rFits g len n (acc + (((nI (f_X7_gapCells g k)) - (g 3)) / len)) (f_X7_nextGap g k)
def f_X7_fitsIn (g : Rw) (len : Int32) : Int32 :=
  lp_rFits g len 81 0 (f_X7_gapFrom g 0)
-- 26.mod1.lean.txt
-- the reference's object: refusal, text, size, now, trial, third, diary, acts, kept, isKept, spot, out
abbrev Mo : Type := Int32 × Rw × Int32 × Rw × Rw × Rw × Rw × Int32 × Rw × Rw × Int32 × Int32
def mA (M : Mo) : Int32 := M.1
def mT (M : Mo) : Rw := M.2.1
def mZ (M : Mo) : Int32 := M.2.2.1
def mN (M : Mo) : Rw := M.2.2.2.1
def mR (M : Mo) : Rw := M.2.2.2.2.1
def mH (M : Mo) : Rw := M.2.2.2.2.2.1
def mD (M : Mo) : Rw := M.2.2.2.2.2.2.1
def mC (M : Mo) : Int32 := M.2.2.2.2.2.2.2.1
def mK (M : Mo) : Rw := M.2.2.2.2.2.2.2.2.1
def mI (M : Mo) : Rw := M.2.2.2.2.2.2.2.2.2.1
def mS (M : Mo) : Int32 := M.2.2.2.2.2.2.2.2.2.2.1
def mO (M : Mo) : Int32 := M.2.2.2.2.2.2.2.2.2.2.2
def oA (M : Mo) (v : Int32) : Mo := (v, M.2)
def oT (M : Mo) (v : Rw) : Mo := (M.1, v, M.2.2)
def oZ (M : Mo) (v : Int32) : Mo := (M.1, M.2.1, v, M.2.2.2)
def oN (M : Mo) (v : Rw) : Mo := (M.1, M.2.1, M.2.2.1, v, M.2.2.2.2)
def oR (M : Mo) (v : Rw) : Mo := (M.1, M.2.1, M.2.2.1, M.2.2.2.1, v, M.2.2.2.2.2)
def oH (M : Mo) (v : Rw) : Mo := (M.1, M.2.1, M.2.2.1, M.2.2.2.1, M.2.2.2.2.1, v, M.2.2.2.2.2.2)
def oD (M : Mo) (v : Rw) : Mo := (M.1, M.2.1, M.2.2.1, M.2.2.2.1, M.2.2.2.2.1, M.2.2.2.2.2.1, v, M.2.2.2.2.2.2.2)
def oC (M : Mo) (v : Int32) : Mo := (M.1, M.2.1, M.2.2.1, M.2.2.2.1, M.2.2.2.2.1, M.2.2.2.2.2.1, M.2.2.2.2.2.2.1, v, M.2.2.2.2.2.2.2.2)
def oK (M : Mo) (v : Rw) : Mo := (M.1, M.2.1, M.2.2.1, M.2.2.2.1, M.2.2.2.2.1, M.2.2.2.2.2.1, M.2.2.2.2.2.2.1, M.2.2.2.2.2.2.2.1, v, M.2.2.2.2.2.2.2.2.2)
def oI (M : Mo) (v : Rw) : Mo := (M.1, M.2.1, M.2.2.1, M.2.2.2.1, M.2.2.2.2.1, M.2.2.2.2.2.1, M.2.2.2.2.2.2.1, M.2.2.2.2.2.2.2.1, M.2.2.2.2.2.2.2.2.1, v, M.2.2.2.2.2.2.2.2.2.2)
def oS (M : Mo) (v : Int32) : Mo := (M.1, M.2.1, M.2.2.1, M.2.2.2.1, M.2.2.2.2.1, M.2.2.2.2.2.1, M.2.2.2.2.2.2.1, M.2.2.2.2.2.2.2.1, M.2.2.2.2.2.2.2.2.1, M.2.2.2.2.2.2.2.2.2.1, v, M.2.2.2.2.2.2.2.2.2.2.2)
def oO (M : Mo) (v : Int32) : Mo := (M.1, M.2.1, M.2.2.1, M.2.2.2.1, M.2.2.2.2.1, M.2.2.2.2.2.1, M.2.2.2.2.2.2.1, M.2.2.2.2.2.2.2.1, M.2.2.2.2.2.2.2.2.1, M.2.2.2.2.2.2.2.2.2.1, M.2.2.2.2.2.2.2.2.2.2.1, v)
def lp_cpSt (f : Rw) (i0 i1 : Nat) : Nat → Nat → Rw → Rw
  | 0, _, g2 => g2
  | n + 1, k, g2 => if 327 ≤ (nI k) then g2 else
    lp_cpSt f i0 i1 n (k + 1) (upd g2 (i1 + k) (f (i0 + k)))
def h_X7_copyState (f g : Rw) (i0 i1 : Nat) : Rw :=
  lp_cpSt f i0 i1 (327 + 1) 0 g
def lp_cl2  : Nat → Nat → Rw → Rw
  | 0, _, g2 => g2
  | n + 1, k, g2 => if 80 ≤ (nI k) then (upd (upd (upd g2 3 1) 4 5) 6 1) else
    lp_cl2 n (k + 1) (upd g2 (7 + k) (-1))
def lp_cl1  : Nat → Nat → Rw → Rw
  | 0, _, g2 => g2
  | n + 1, k, g2 => if 327 ≤ (nI k) then lp_cl2 (80 + 1) 0 g2 else
    lp_cl1 n (k + 1) (upd g2 k 0)
def h_X7_clear (g : Rw) : Rw :=
  lp_cl1 (327 + 1) 0 g
def f_X7_thrown (M : Mo) : Int32 :=
  mA M
def h_X7_refused (M : Mo) (w : Int32) : Int32 × Mo :=
  if w ≤ 0 then (0, (oA M w)) else
  (1, (oA M w))
theorem b_h_X7_refused (M : Mo) (w : Int32) : (h_X7_refused M w).1 = 0 ∨ (h_X7_refused M w).1 = 1 := by
  unfold h_X7_refused
  repeat' split
  all_goals first | exact Or.inl rfl | exact Or.inr rfl

theorem ref_0 (M : Mo) : (h_X7_refused M 0).1 = 0 := by rw [h_X7_refused, if_pos (by decide)]
theorem ref_p1 (M : Mo) : ¬ (h_X7_refused M 1).1 = 0 := by rw [h_X7_refused, if_neg (by decide)]; exact (by decide : ¬ (1 : Int32) = 0)
theorem ref_p2 (M : Mo) : ¬ (h_X7_refused M 2).1 = 0 := by rw [h_X7_refused, if_neg (by decide)]; exact (by decide : ¬ (1 : Int32) = 0)
theorem ref_M (M : Mo) (w : Int32) : (h_X7_refused M w).2 = oA M w := by
  rw [h_X7_refused]
  split <;> rfl
def zz (M : Mo) : Nat := (mZ M).toNatClampNeg
theorem ref_Z (M : Mo) (w : Int32) : mZ (h_X7_refused M w).2 = mZ M := by
  rw [ref_M]
  rfl
theorem lt120 {x : Int32} {z : Nat} (h : x = nI z) (hz : z ≤ 120) (hn : ¬ x = 120) : z < 120 := by
  rcases Nat.lt_or_ge z 120 with q | q
  · exact q
  · exact absurd (by rw [h, show z = 120 by omega]; rfl) hn

def h_X7_append (M : Mo) (ch : Int32) : Int32 × Mo :=
  if (f_X7_in ch.toInt64 0 255) = 0 then (0, (h_X7_refused M 1).2) else
  if (mZ M) = 120 then (0, (h_X7_refused M 2).2) else
  (mZ (oZ (oT ((h_X7_refused M 0).2) (upd (mT ((h_X7_refused M 0).2)) (zz M) ch)) ((mZ (oT ((h_X7_refused M 0).2) (upd (mT ((h_X7_refused M 0).2)) (zz M) ch))) + 1)), (oZ (oT ((h_X7_refused M 0).2) (upd (mT ((h_X7_refused M 0).2)) (zz M) ch)) ((mZ (oT ((h_X7_refused M 0).2) (upd (mT ((h_X7_refused M 0).2)) (zz M) ch))) + 1)))
def h_X7_clearText (M : Mo) : Int32 × Mo :=
  (mZ (oA M 0), (oZ (oA M 0) 0))
-- 27.mod2.lean.txt
theorem ref_N (M : Mo) (w : Int32) : mN (h_X7_refused M w).2 = mN M := by
  rw [ref_M]
  rfl
theorem in_nat {x : Int32} {lo hi : Int64} {a : Nat} (hlo : lo.toInt = 0) (hhi : hi.toInt = a) (h : ¬ f_X7_in x.toInt64 lo hi = 0) : ∃ j, j ≤ a ∧ x = nI j := by
  have h1 := in_ne h
  rw [i64, hlo, hhi] at h1
  obtain ⟨j, hj, rfl⟩ := nI_of (x := x) (by rw [Int32.lt_iff_toInt_lt, Int32.toInt_zero]; omega)
  rw [nI_toInt hj] at h1
  exact ⟨j, by omega, rfl⟩
theorem set_in {x : Int32} (h : ¬ f_X7_in x.toInt64 0 2 = 0) : vp_in (2 + x) 327 := by
  obtain ⟨j, hj, rfl⟩ := in_nat (a := 2) (by decide) (by decide) h
  rw [show (2 : Int32) + nI j = nI (2 + j) from nI_add 2 j]
  exact vp_in_nI (by omega) (by omega)
theorem car_r {M : Mo} {c : Int32} {w : Int32} (hR : RI (mN M)) (h : ¬ f_X7_isCar (mN M) c = 0) : ∃ j, j < 40 ∧ c = nI j := car_40 hR.1 h
theorem of_w6 {x : Int32} (h : ¬ f_X7_in x.toInt64 0 6 = 0) (h6 : ¬ 6 ≤ x) : ∃ j, j < 6 ∧ x = nI j := by
  obtain ⟨j, hj, rfl⟩ := in_nat (a := 6) (by decide) (by decide) h
  exact ⟨j, kN (B := 6) h6 (by omega) (by omega), rfl⟩

def h_X7_setting (M : Mo) (x : Int32) : Int32 × Mo :=
  if (f_X7_in x.toInt64 0 2) = 0 then (0, (h_X7_refused M 1).2) else
  ((mN ((h_X7_refused M 0).2)) (2 + x).toNatClampNeg, (h_X7_refused M 0).2)
def h_X7_at (M : Mo) (x : Int32) : Int32 × Mo :=
  if (f_X7_isCell x) = 0 then (0, (h_X7_refused M 1).2) else
  ((mN ((h_X7_refused M 0).2)) (7 + x).toNatClampNeg, (h_X7_refused M 0).2)
def h_X7_why (M : Mo) (len : Int32) : Int32 × Mo :=
  if (f_X7_isLength len) = 0 then (0, (h_X7_refused M 1).2) else
  (f_X7_reason (mN ((h_X7_refused M 0).2)) len, (h_X7_refused M 0).2)
def h_X7_done (M : Mo) (is : Int32) : Int32 × Mo :=
  if is = 0 then (1, (oO M ((mO M) + 1))) else
  (1, (oO M ((mO M) + 0)))
theorem b_h_X7_done (M : Mo) (is : Int32) : (h_X7_done M is).1 = 0 ∨ (h_X7_done M is).1 = 1 := by
  unfold h_X7_done
  repeat' split
  all_goals first | exact Or.inl rfl | exact Or.inr rfl

def h_X7_carOf (M : Mo) (c : Int32) (w : Int32) : Int32 × Mo :=
  if (f_X7_isCar (mN M) c) = 0 then (0, (h_X7_refused M 1).2) else
  if (f_X7_in w.toInt64 0 6) = 0 then (0, (h_X7_refused M 2).2) else
  if 6 ≤ w then (if (f_X7_isParked (mN ((h_X7_refused M 0).2)) c) = 0 then ((-1), (h_X7_refused M 0).2) else
    ((f_X7_of (mN ((h_X7_refused M 0).2)) c.toNatClampNeg 1) - (f_X7_of (mN ((h_X7_refused M 0).2)) c.toNatClampNeg 4), (h_X7_refused M 0).2)) else
  (f_X7_of (mN ((h_X7_refused M 0).2)) c.toNatClampNeg w.toNatClampNeg, (h_X7_refused M 0).2)
-- 28.mod3.lean.txt
theorem mA_oA (M : Mo) (v : Int32) : mA (oA M v) = v := rfl
theorem mA_oT (M : Mo) (v : Rw) : mA (oT M v) = mA M := rfl
theorem mA_oZ (M : Mo) (v : Int32) : mA (oZ M v) = mA M := rfl
theorem mA_oN (M : Mo) (v : Rw) : mA (oN M v) = mA M := rfl
theorem mA_oR (M : Mo) (v : Rw) : mA (oR M v) = mA M := rfl
theorem mA_oH (M : Mo) (v : Rw) : mA (oH M v) = mA M := rfl
theorem mA_oD (M : Mo) (v : Rw) : mA (oD M v) = mA M := rfl
theorem mA_oC (M : Mo) (v : Int32) : mA (oC M v) = mA M := rfl
theorem mA_oK (M : Mo) (v : Rw) : mA (oK M v) = mA M := rfl
theorem mA_oI (M : Mo) (v : Rw) : mA (oI M v) = mA M := rfl
theorem mA_oS (M : Mo) (v : Int32) : mA (oS M v) = mA M := rfl
theorem mA_oO (M : Mo) (v : Int32) : mA (oO M v) = mA M := rfl
theorem mT_oA (M : Mo) (v : Int32) : mT (oA M v) = mT M := rfl
theorem mT_oT (M : Mo) (v : Rw) : mT (oT M v) = v := rfl
theorem mT_oZ (M : Mo) (v : Int32) : mT (oZ M v) = mT M := rfl
theorem mT_oN (M : Mo) (v : Rw) : mT (oN M v) = mT M := rfl
theorem mT_oR (M : Mo) (v : Rw) : mT (oR M v) = mT M := rfl
theorem mT_oH (M : Mo) (v : Rw) : mT (oH M v) = mT M := rfl
theorem mT_oD (M : Mo) (v : Rw) : mT (oD M v) = mT M := rfl
theorem mT_oC (M : Mo) (v : Int32) : mT (oC M v) = mT M := rfl
theorem mT_oK (M : Mo) (v : Rw) : mT (oK M v) = mT M := rfl
theorem mT_oI (M : Mo) (v : Rw) : mT (oI M v) = mT M := rfl
theorem mT_oS (M : Mo) (v : Int32) : mT (oS M v) = mT M := rfl
theorem mT_oO (M : Mo) (v : Int32) : mT (oO M v) = mT M := rfl
theorem mZ_oA (M : Mo) (v : Int32) : mZ (oA M v) = mZ M := rfl
theorem mZ_oT (M : Mo) (v : Rw) : mZ (oT M v) = mZ M := rfl
theorem mZ_oZ (M : Mo) (v : Int32) : mZ (oZ M v) = v := rfl
theorem mZ_oN (M : Mo) (v : Rw) : mZ (oN M v) = mZ M := rfl
theorem mZ_oR (M : Mo) (v : Rw) : mZ (oR M v) = mZ M := rfl
theorem mZ_oH (M : Mo) (v : Rw) : mZ (oH M v) = mZ M := rfl
theorem mZ_oD (M : Mo) (v : Rw) : mZ (oD M v) = mZ M := rfl
theorem mZ_oC (M : Mo) (v : Int32) : mZ (oC M v) = mZ M := rfl
theorem mZ_oK (M : Mo) (v : Rw) : mZ (oK M v) = mZ M := rfl
theorem mZ_oI (M : Mo) (v : Rw) : mZ (oI M v) = mZ M := rfl
theorem mZ_oS (M : Mo) (v : Int32) : mZ (oS M v) = mZ M := rfl
theorem mZ_oO (M : Mo) (v : Int32) : mZ (oO M v) = mZ M := rfl
theorem mN_oA (M : Mo) (v : Int32) : mN (oA M v) = mN M := rfl
theorem mN_oT (M : Mo) (v : Rw) : mN (oT M v) = mN M := rfl
theorem mN_oZ (M : Mo) (v : Int32) : mN (oZ M v) = mN M := rfl
theorem mN_oN (M : Mo) (v : Rw) : mN (oN M v) = v := rfl
theorem mN_oR (M : Mo) (v : Rw) : mN (oR M v) = mN M := rfl
theorem mN_oH (M : Mo) (v : Rw) : mN (oH M v) = mN M := rfl
theorem mN_oD (M : Mo) (v : Rw) : mN (oD M v) = mN M := rfl
theorem mN_oC (M : Mo) (v : Int32) : mN (oC M v) = mN M := rfl
theorem mN_oK (M : Mo) (v : Rw) : mN (oK M v) = mN M := rfl
theorem mN_oI (M : Mo) (v : Rw) : mN (oI M v) = mN M := rfl
theorem mN_oS (M : Mo) (v : Int32) : mN (oS M v) = mN M := rfl
theorem mN_oO (M : Mo) (v : Int32) : mN (oO M v) = mN M := rfl
theorem mR_oA (M : Mo) (v : Int32) : mR (oA M v) = mR M := rfl
theorem mR_oT (M : Mo) (v : Rw) : mR (oT M v) = mR M := rfl
theorem mR_oZ (M : Mo) (v : Int32) : mR (oZ M v) = mR M := rfl
theorem mR_oN (M : Mo) (v : Rw) : mR (oN M v) = mR M := rfl
theorem mR_oR (M : Mo) (v : Rw) : mR (oR M v) = v := rfl
theorem mR_oH (M : Mo) (v : Rw) : mR (oH M v) = mR M := rfl
theorem mR_oD (M : Mo) (v : Rw) : mR (oD M v) = mR M := rfl
theorem mR_oC (M : Mo) (v : Int32) : mR (oC M v) = mR M := rfl
theorem mR_oK (M : Mo) (v : Rw) : mR (oK M v) = mR M := rfl
theorem mR_oI (M : Mo) (v : Rw) : mR (oI M v) = mR M := rfl
theorem mR_oS (M : Mo) (v : Int32) : mR (oS M v) = mR M := rfl
theorem mR_oO (M : Mo) (v : Int32) : mR (oO M v) = mR M := rfl
theorem mH_oA (M : Mo) (v : Int32) : mH (oA M v) = mH M := rfl
theorem mH_oT (M : Mo) (v : Rw) : mH (oT M v) = mH M := rfl
theorem mH_oZ (M : Mo) (v : Int32) : mH (oZ M v) = mH M := rfl
theorem mH_oN (M : Mo) (v : Rw) : mH (oN M v) = mH M := rfl
theorem mH_oR (M : Mo) (v : Rw) : mH (oR M v) = mH M := rfl
theorem mH_oH (M : Mo) (v : Rw) : mH (oH M v) = v := rfl
theorem mH_oD (M : Mo) (v : Rw) : mH (oD M v) = mH M := rfl
theorem mH_oC (M : Mo) (v : Int32) : mH (oC M v) = mH M := rfl
theorem mH_oK (M : Mo) (v : Rw) : mH (oK M v) = mH M := rfl
theorem mH_oI (M : Mo) (v : Rw) : mH (oI M v) = mH M := rfl
theorem mH_oS (M : Mo) (v : Int32) : mH (oS M v) = mH M := rfl
theorem mH_oO (M : Mo) (v : Int32) : mH (oO M v) = mH M := rfl
theorem mD_oA (M : Mo) (v : Int32) : mD (oA M v) = mD M := rfl
theorem mD_oT (M : Mo) (v : Rw) : mD (oT M v) = mD M := rfl
theorem mD_oZ (M : Mo) (v : Int32) : mD (oZ M v) = mD M := rfl
theorem mD_oN (M : Mo) (v : Rw) : mD (oN M v) = mD M := rfl
theorem mD_oR (M : Mo) (v : Rw) : mD (oR M v) = mD M := rfl
theorem mD_oH (M : Mo) (v : Rw) : mD (oH M v) = mD M := rfl
theorem mD_oD (M : Mo) (v : Rw) : mD (oD M v) = v := rfl
theorem mD_oC (M : Mo) (v : Int32) : mD (oC M v) = mD M := rfl
theorem mD_oK (M : Mo) (v : Rw) : mD (oK M v) = mD M := rfl
theorem mD_oI (M : Mo) (v : Rw) : mD (oI M v) = mD M := rfl
theorem mD_oS (M : Mo) (v : Int32) : mD (oS M v) = mD M := rfl
theorem mD_oO (M : Mo) (v : Int32) : mD (oO M v) = mD M := rfl
theorem mC_oA (M : Mo) (v : Int32) : mC (oA M v) = mC M := rfl
theorem mC_oT (M : Mo) (v : Rw) : mC (oT M v) = mC M := rfl
theorem mC_oZ (M : Mo) (v : Int32) : mC (oZ M v) = mC M := rfl
theorem mC_oN (M : Mo) (v : Rw) : mC (oN M v) = mC M := rfl
theorem mC_oR (M : Mo) (v : Rw) : mC (oR M v) = mC M := rfl
theorem mC_oH (M : Mo) (v : Rw) : mC (oH M v) = mC M := rfl
theorem mC_oD (M : Mo) (v : Rw) : mC (oD M v) = mC M := rfl
theorem mC_oC (M : Mo) (v : Int32) : mC (oC M v) = v := rfl
theorem mC_oK (M : Mo) (v : Rw) : mC (oK M v) = mC M := rfl
theorem mC_oI (M : Mo) (v : Rw) : mC (oI M v) = mC M := rfl
theorem mC_oS (M : Mo) (v : Int32) : mC (oS M v) = mC M := rfl
theorem mC_oO (M : Mo) (v : Int32) : mC (oO M v) = mC M := rfl
theorem mK_oA (M : Mo) (v : Int32) : mK (oA M v) = mK M := rfl
theorem mK_oT (M : Mo) (v : Rw) : mK (oT M v) = mK M := rfl
theorem mK_oZ (M : Mo) (v : Int32) : mK (oZ M v) = mK M := rfl
theorem mK_oN (M : Mo) (v : Rw) : mK (oN M v) = mK M := rfl
theorem mK_oR (M : Mo) (v : Rw) : mK (oR M v) = mK M := rfl
theorem mK_oH (M : Mo) (v : Rw) : mK (oH M v) = mK M := rfl
theorem mK_oD (M : Mo) (v : Rw) : mK (oD M v) = mK M := rfl
theorem mK_oC (M : Mo) (v : Int32) : mK (oC M v) = mK M := rfl
theorem mK_oK (M : Mo) (v : Rw) : mK (oK M v) = v := rfl
theorem mK_oI (M : Mo) (v : Rw) : mK (oI M v) = mK M := rfl
theorem mK_oS (M : Mo) (v : Int32) : mK (oS M v) = mK M := rfl
theorem mK_oO (M : Mo) (v : Int32) : mK (oO M v) = mK M := rfl
theorem mI_oA (M : Mo) (v : Int32) : mI (oA M v) = mI M := rfl
theorem mI_oT (M : Mo) (v : Rw) : mI (oT M v) = mI M := rfl
theorem mI_oZ (M : Mo) (v : Int32) : mI (oZ M v) = mI M := rfl
theorem mI_oN (M : Mo) (v : Rw) : mI (oN M v) = mI M := rfl
theorem mI_oR (M : Mo) (v : Rw) : mI (oR M v) = mI M := rfl
theorem mI_oH (M : Mo) (v : Rw) : mI (oH M v) = mI M := rfl
theorem mI_oD (M : Mo) (v : Rw) : mI (oD M v) = mI M := rfl
theorem mI_oC (M : Mo) (v : Int32) : mI (oC M v) = mI M := rfl
theorem mI_oK (M : Mo) (v : Rw) : mI (oK M v) = mI M := rfl
theorem mI_oI (M : Mo) (v : Rw) : mI (oI M v) = v := rfl
theorem mI_oS (M : Mo) (v : Int32) : mI (oS M v) = mI M := rfl
theorem mI_oO (M : Mo) (v : Int32) : mI (oO M v) = mI M := rfl
theorem mS_oA (M : Mo) (v : Int32) : mS (oA M v) = mS M := rfl
theorem mS_oT (M : Mo) (v : Rw) : mS (oT M v) = mS M := rfl
theorem mS_oZ (M : Mo) (v : Int32) : mS (oZ M v) = mS M := rfl
theorem mS_oN (M : Mo) (v : Rw) : mS (oN M v) = mS M := rfl
theorem mS_oR (M : Mo) (v : Rw) : mS (oR M v) = mS M := rfl
theorem mS_oH (M : Mo) (v : Rw) : mS (oH M v) = mS M := rfl
theorem mS_oD (M : Mo) (v : Rw) : mS (oD M v) = mS M := rfl
theorem mS_oC (M : Mo) (v : Int32) : mS (oC M v) = mS M := rfl
theorem mS_oK (M : Mo) (v : Rw) : mS (oK M v) = mS M := rfl
theorem mS_oI (M : Mo) (v : Rw) : mS (oI M v) = mS M := rfl
theorem mS_oS (M : Mo) (v : Int32) : mS (oS M v) = v := rfl
theorem mS_oO (M : Mo) (v : Int32) : mS (oO M v) = mS M := rfl
theorem mO_oA (M : Mo) (v : Int32) : mO (oA M v) = mO M := rfl
theorem mO_oT (M : Mo) (v : Rw) : mO (oT M v) = mO M := rfl
theorem mO_oZ (M : Mo) (v : Int32) : mO (oZ M v) = mO M := rfl
theorem mO_oN (M : Mo) (v : Rw) : mO (oN M v) = mO M := rfl
theorem mO_oR (M : Mo) (v : Rw) : mO (oR M v) = mO M := rfl
theorem mO_oH (M : Mo) (v : Rw) : mO (oH M v) = mO M := rfl
theorem mO_oD (M : Mo) (v : Rw) : mO (oD M v) = mO M := rfl
theorem mO_oC (M : Mo) (v : Int32) : mO (oC M v) = mO M := rfl
theorem mO_oK (M : Mo) (v : Rw) : mO (oK M v) = mO M := rfl
theorem mO_oI (M : Mo) (v : Rw) : mO (oI M v) = mO M := rfl
theorem mO_oS (M : Mo) (v : Int32) : mO (oS M v) = mO M := rfl
theorem mO_oO (M : Mo) (v : Int32) : mO (oO M v) = v := rfl
def ac (M : Mo) : Nat := (mC M).toNatClampNeg
theorem lt14 {x : Int32} {z : Nat} (h : x = nI z) (hz : z ≤ 14) (hn : ¬ x = 14) : z < 14 := by
  rcases Nat.lt_or_ge z 14 with q | q
  · exact q
  · exact absurd (by rw [h, show z = 14 by omega]; rfl) hn
theorem rem13 {M M2 : Mo} (hC : mC M2 = mC M) (h : mC M = 14) : mC (oC M2 ((mC M2) - 1)) = nI 13 := by
  show mC M2 - 1 = nI 13
  rw [hC, h]
  decide

def lp_rem (M : Mo) : Nat → Nat → Mo → Mo
  | 0, _, M2 => M2
  | n + 1, k, M2 => if 4251 ≤ (nI k) then (oC (oD (oC M2 ((mC M2) - 1)) (h_X7_copyState (mN (oC M2 ((mC M2) - 1))) (mD (oC M2 ((mC M2) - 1))) 0 (327 * 13))) ((mC (oD (oC M2 ((mC M2) - 1)) (h_X7_copyState (mN (oC M2 ((mC M2) - 1))) (mD (oC M2 ((mC M2) - 1))) 0 (327 * 13)))) + 1)) else
    lp_rem M n (k + 1) (oD M2 (upd (mD M2) k ((mD M2) (k + 327))))
def h_X7_remember (M : Mo) : Mo :=
  if (mC M) = 14 then lp_rem M (4251 + 1) 0 M else
  (oC (oD M (h_X7_copyState (mN M) (mD M) 0 (327 * (ac M)))) ((mC (oD M (h_X7_copyState (mN M) (mD M) 0 (327 * (ac M))))) + 1))
theorem remL (M : Mo) : ∀ (n k : Nat) (M2 : Mo), mN (lp_rem M n k M2) = mN M2 ∧ mA (lp_rem M n k M2) = mA M2 := by
  intro n
  induction n with
  | zero => intro k M2; exact ⟨rfl, rfl⟩
  | succ n ih =>
    intro k M2
    rw [lp_rem]
    split
    · simp only [mN_oC, mN_oD, mA_oC, mA_oD]
      exact ⟨trivial, trivial⟩
    · exact ih ..
theorem rem_N (M : Mo) : mN (h_X7_remember M) = mN M := by
  rw [h_X7_remember]
  split
  · exact (remL ..).1
  · rw [mN_oC, mN_oD]
theorem ref_C (M : Mo) (w : Int32) : mC (h_X7_refused M w).2 = mC M := by
  rw [ref_M]
  rfl
theorem ref_ac (M : Mo) (w : Int32) : ac (h_X7_refused M w).2 = ac M := by rw [ac, ref_C, ac]

-- 29.mod4.lean.txt
theorem rr_N (M : Mo) (w : Int32) : mN (h_X7_remember (h_X7_refused M w).2) = mN M := by rw [rem_N, ref_N]
theorem RI_rr {M : Mo} {w : Int32} (h : RI (mN M)) : RI (mN (h_X7_remember (h_X7_refused M w).2)) := by
  rw [rr_N]
  exact h
theorem len_n {x : Int32} (h : ¬ f_X7_isLength x = 0) : ∃ j, j ≤ 8 ∧ x = nI j := by
  rw [f_X7_isLength] at h
  have h1 := in_ne h
  rw [i64, show (2 : Int64).toInt = 2 by decide, show (8 : Int64).toInt = 8 by decide] at h1
  obtain ⟨j, hj, rfl⟩ := nI_of (x := x) (by rw [Int32.lt_iff_toInt_lt, Int32.toInt_zero]; omega)
  rw [nI_toInt hj] at h1
  exact ⟨j, by omega, rfl⟩
theorem set_w {w v : Int32} (h : ¬ f_X7_isSetting w v = 0) : ∃ j, j < 3 ∧ w = nI j := by
  rw [f_X7_isSetting] at h
  by_cases c0 : w = 0
  · exact ⟨0, by omega, c0⟩
  · by_cases c1 : w = 1
    · exact ⟨1, by omega, c1⟩
    · by_cases c2 : w = 2
      · exact ⟨2, by omega, c2⟩
      · simp only [c0, c1, c2, if_false] at h
        exact absurd trivial h
theorem rcell_n {x : Int32} (h : ¬ f_X7_isCell x = 0) : ∃ j, j < 80 ∧ x = nI j := by
  have h1 := rcell h
  obtain ⟨j, hj, rfl⟩ := nI_of (x := x) (by rw [Int32.lt_iff_toInt_lt, Int32.toInt_zero]; omega)
  rw [nI_toInt hj] at h1
  exact ⟨j, by omega, rfl⟩
def h_X7_set (M : Mo) (w : Int32) (v : Int32) : Int32 × Mo :=
  if (f_X7_isSetting w v) = 0 then (0, (h_X7_refused M 1).2) else
  ((h_X7_change (mN (h_X7_remember ((h_X7_refused M 0).2))) w.toNatClampNeg v).1, (oN (h_X7_remember ((h_X7_refused M 0).2)) ((h_X7_change (mN (h_X7_remember ((h_X7_refused M 0).2))) w.toNatClampNeg v).2)))
def h_X7_minutes (M : Mo) (x : Int32) : Int32 × Mo :=
  if (f_X7_in x.toInt64 1 60) = 0 then (0, (h_X7_refused M 1).2) else
  ((h_X7_minutesOn (mN (h_X7_remember ((h_X7_refused M 0).2))) x).1, (oN (h_X7_remember ((h_X7_refused M 0).2)) ((h_X7_minutesOn (mN (h_X7_remember ((h_X7_refused M 0).2))) x).2)))
def h_X7_hydrant (M : Mo) (x : Int32) (on : Int32) : Int32 × Mo :=
  if (f_X7_isCell x) = 0 then (0, (h_X7_refused M 1).2) else
  if (f_X7_canHydrant (mN M) x on) = 0 then (0, (h_X7_refused M 2).2) else
  ((h_X7_hydrantOn (mN (h_X7_remember ((h_X7_refused M 0).2))) x.toNatClampNeg on).1, (oN (h_X7_remember ((h_X7_refused M 0).2)) ((h_X7_hydrantOn (mN (h_X7_remember ((h_X7_refused M 0).2))) x.toNatClampNeg on).2)))
def h_X7_come (M : Mo) (len : Int32) (stay : Int32) : Int32 × Mo :=
  if (f_X7_isLength len) = 0 then (0, (h_X7_refused M 1).2) else
  if (f_X7_in stay.toInt64 1 99) = 0 then (0, (h_X7_refused M 1).2) else
  if 40 ≤ ((mN M) 0) then (0, (h_X7_refused M 2).2) else
  ((h_X7_comeOn (mN (h_X7_remember ((h_X7_refused M 0).2))) len stay).1, (oN (h_X7_remember ((h_X7_refused M 0).2)) ((h_X7_comeOn (mN (h_X7_remember ((h_X7_refused M 0).2))) len stay).2)))
-- 30.mod5.lean.txt
theorem park_c {g : Rw} {c : Int32} (h : RI g) (hp : ¬ f_X7_isParked g c = 0) : ∃ j, j < gm g ∧ c = nI j ∧ f_X7_of g j 2 = 0 := by
  have hm := h.m
  have hp2 := hp
  rw [f_X7_isParked] at hp2
  by_cases c1 : f_X7_isCar g c = 0
  · rw [if_pos c1] at hp2
    exact absurd rfl hp2
  · obtain ⟨j, hj, e⟩ := car_n hm.1 hm.2 c1
    subst e
    exact ⟨j, hj, rfl, (parked_n h (by omega) hp).2⟩
def h_X7_leave (M : Mo) (c : Int32) : Int32 × Mo :=
  if (f_X7_isCar (mN M) c) = 0 then (0, (h_X7_refused M 1).2) else
  if (f_X7_isParked (mN M) c) = 0 then (0, (h_X7_refused M 2).2) else
  ((h_X7_goes (mN (h_X7_remember ((h_X7_refused M 0).2))) c.toNatClampNeg 2).1, (oN (h_X7_remember ((h_X7_refused M 0).2)) ((h_X7_goes (mN (h_X7_remember ((h_X7_refused M 0).2))) c.toNatClampNeg 2).2)))
def h_X7_tow (M : Mo) (c : Int32) : Int32 × Mo :=
  if (f_X7_isCar (mN M) c) = 0 then (0, (h_X7_refused M 1).2) else
  if (f_X7_isParked (mN M) c) = 0 then (0, (h_X7_refused M 2).2) else
  ((f_X7_of (mN (oN (h_X7_remember ((h_X7_refused M 0).2)) ((h_X7_goes (mN (h_X7_remember ((h_X7_refused M 0).2))) c.toNatClampNeg 4).2))) c.toNatClampNeg 1) - (f_X7_of (mN (oN (h_X7_remember ((h_X7_refused M 0).2)) ((h_X7_goes (mN (h_X7_remember ((h_X7_refused M 0).2))) c.toNatClampNeg 4).2))) c.toNatClampNeg 4), (oN (h_X7_remember ((h_X7_refused M 0).2)) ((h_X7_goes (mN (h_X7_remember ((h_X7_refused M 0).2))) c.toNatClampNeg 4).2)))
-- 31.mod6.lean.txt
theorem und_C {M : Mo} (hac : mC M = nI (ac M)) (hac14 : ac M ≤ 14) (h : ¬ mC M = 0) : mC (oC (h_X7_refused M 0).2 ((mC (h_X7_refused M 0).2) - 1)) = nI (ac M - 1) := by
  rw [mC_oC, ref_C, hac]
  have h0 : 0 < ac M := Nat.pos_of_ne_zero fun z => h (by rw [hac, z]; rfl)
  exact pk_sub (b := 1) h0
theorem und_lt {M : Mo} (hac : mC M = nI (ac M)) (hac14 : ac M ≤ 14) (h : ¬ mC M = 0) : ac M - 1 < 14 := by
  have h0 : 0 < ac M := Nat.pos_of_ne_zero fun z => h (by rw [hac, z]; rfl)
  omega

def h_X7_undo (M : Mo) : Int32 × Mo :=
  if (mC M) = 0 then (0, (h_X7_refused M 1).2) else
  (mC (oN (oC ((h_X7_refused M 0).2) ((mC ((h_X7_refused M 0).2)) - 1)) (h_X7_copyState (mD (oC ((h_X7_refused M 0).2) ((mC ((h_X7_refused M 0).2)) - 1))) (mN (oC ((h_X7_refused M 0).2) ((mC ((h_X7_refused M 0).2)) - 1))) (327 * (ac M - 1)) 0)), (oN (oC ((h_X7_refused M 0).2) ((mC ((h_X7_refused M 0).2)) - 1)) (h_X7_copyState (mD (oC ((h_X7_refused M 0).2) ((mC ((h_X7_refused M 0).2)) - 1))) (mN (oC ((h_X7_refused M 0).2) ((mC ((h_X7_refused M 0).2)) - 1))) (327 * (ac M - 1)) 0)))
def h_X7_place (M : Mo) (len : Int32) : Int32 × Mo :=
  if (f_X7_isLength len) = 0 then (0, (h_X7_refused M 1).2) else
  ((h_X7_placeFor (mR (oR ((h_X7_refused M 0).2) (h_X7_copyState (mN ((h_X7_refused M 0).2)) (mR ((h_X7_refused M 0).2)) 0 0))) len).1, (oR (oR ((h_X7_refused M 0).2) (h_X7_copyState (mN ((h_X7_refused M 0).2)) (mR ((h_X7_refused M 0).2)) 0 0)) ((h_X7_placeFor (mR (oR ((h_X7_refused M 0).2) (h_X7_copyState (mN ((h_X7_refused M 0).2)) (mR ((h_X7_refused M 0).2)) 0 0))) len).2)))
def lp_about (M : Mo) (x : Int32) : Nat → Int32 → Nat → Mo → Int32 × Mo
  | 0, acc, _, M2 => (acc, M2)
  | n + 1, acc, k, M2 => if ((mN M2) 0) ≤ (nI k) then (if x = 0 then ((mN M2) 0, M2) else
      if x = 6 then ((mN M2) 1, M2) else
      if x = 7 then (nI (f_X7_gaps (mN M2)), M2) else
      if x = 8 then (nI (f_X7_longest (mN M2)), M2) else
      if x = 9 then (f_X7_cellsWith (mN M2) (-1), M2) else
      if x = 10 then (f_X7_cellsWith (mN M2) 100, M2) else
      if x = 11 then (acc, M2) else
      (f_X7_many (mN M2) (x - 1), M2)) else
    lp_about M x n (acc + (f_X7_of (mN M2) k 4)) (k + 1) M2
def h_X7_about (M : Mo) (x : Int32) : Int32 × Mo :=
  if (f_X7_in x.toInt64 0 11) = 0 then (0, (h_X7_refused M 1).2) else
  lp_about M x (gm (mN M) + 1) 0 0 ((h_X7_refused M 0).2)
theorem gapOf_lp (g : Rw) (kk : Int32) : ∀ (n i k : Nat), k ≤ 80 → lp_rGapOf g kk n i k ≤ 80 := by
  intro n
  induction n with
  | zero => intro i k hk; exact hk
  | succ n ih =>
    intro i k hk
    rw [lp_rGapOf]
    split
    · exact hk
    · split
      · exact hk
      · rename_i c1
        exact ih _ _ (next_gt g (kN (B := 80) c1 (by omega) (by omega))).2
theorem gapOf_le (g : Rw) (kk : Int32) : f_X7_gapOf g kk ≤ 80 := gapOf_lp g kk _ _ _ (from_le g (by omega)).2

def h_X7_gap (M : Mo) (kk : Int32) (w : Int32) : Int32 × Mo :=
  if 0 ≤ kk then (if (nI (f_X7_gapOf (mN M) kk)) = 80 then (0, (h_X7_refused M 1).2) else
    if (f_X7_in w.toInt64 0 1) = 0 then (0, (h_X7_refused M 2).2) else
    if w = 0 then (nI (f_X7_gapOf (mN M) kk), (h_X7_refused M 0).2) else
    (nI (f_X7_gapCells (mN ((h_X7_refused M 0).2)) (f_X7_gapOf (mN M) kk)), (h_X7_refused M 0).2)) else
  if (80 : Int32) = 80 then (0, (h_X7_refused M 1).2) else
  if (f_X7_in w.toInt64 0 1) = 0 then (0, (h_X7_refused M 2).2) else
  if w = 0 then (80, (h_X7_refused M 0).2) else
  (nI (f_X7_gapCells (mN ((h_X7_refused M 0).2)) 80), (h_X7_refused M 0).2)
-- 32.mod7.lean.txt
theorem slot_n {x : Int32} (h : ¬ f_X7_in x.toInt64 0 1 = 0) : ∃ j, j ≤ 1 ∧ x = nI j := in_nat (a := 1) (by decide) (by decide) h
theorem slot_in {x : Int32} (h : ¬ f_X7_in x.toInt64 0 1 = 0) : vp_in x 2 := by
  obtain ⟨j, hj, rfl⟩ := slot_n h
  exact vp_in_nI (by omega) (by omega)
theorem slot_ix {x : Int32} (h : ¬ f_X7_in x.toInt64 0 1 = 0) : ∃ j, j + 327 ≤ 654 ∧ 327 * x = nI j := by
  obtain ⟨j, hj, rfl⟩ := slot_n h
  exact ⟨327 * j, by omega, pk_mul 327 j⟩
theorem len_ne {x : Int32} (h : ¬ f_X7_isLength x = 0) : ¬ x = 0 := by
  rw [f_X7_isLength] at h
  have h1 := in_ne h
  rw [i64, show (2 : Int64).toInt = 2 by decide, show (8 : Int64).toInt = 8 by decide] at h1
  intro z
  rw [z, Int32.toInt_zero] at h1
  omega

def h_X7_fits (M : Mo) (len : Int32) (way : Int32) : Int32 × Mo :=
  if (f_X7_isLength len) = 0 then (0, (h_X7_refused M 1).2) else
  if (f_X7_in way.toInt64 0 1) = 0 then (0, (h_X7_refused M 1).2) else
  (f_X7_fitsIn (mN ((h_X7_refused M 0).2)) len, (h_X7_refused M 0).2)
def h_X7_save (M : Mo) (x : Int32) : Int32 × Mo :=
  if (f_X7_in x.toInt64 0 1) = 0 then (0, (h_X7_refused M 1).2) else
  ((mN (oI (oK ((h_X7_refused M 0).2) (h_X7_copyState (mN ((h_X7_refused M 0).2)) (mK ((h_X7_refused M 0).2)) ((0 : Int32).toNatClampNeg) ((327 * x).toNatClampNeg))) (upd (mI (oK ((h_X7_refused M 0).2) (h_X7_copyState (mN ((h_X7_refused M 0).2)) (mK ((h_X7_refused M 0).2)) ((0 : Int32).toNatClampNeg) ((327 * x).toNatClampNeg)))) x.toNatClampNeg (vp_nar .boolean 1)))) 1, (oI (oK ((h_X7_refused M 0).2) (h_X7_copyState (mN ((h_X7_refused M 0).2)) (mK ((h_X7_refused M 0).2)) ((0 : Int32).toNatClampNeg) ((327 * x).toNatClampNeg))) (upd (mI (oK ((h_X7_refused M 0).2) (h_X7_copyState (mN ((h_X7_refused M 0).2)) (mK ((h_X7_refused M 0).2)) ((0 : Int32).toNatClampNeg) ((327 * x).toNatClampNeg)))) x.toNatClampNeg (vp_nar .boolean 1))))
def h_X7_restore (M : Mo) (x : Int32) : Int32 × Mo :=
  if (f_X7_in x.toInt64 0 1) = 0 then (0, (h_X7_refused M 1).2) else
  if ((mI M) x.toNatClampNeg) = 0 then (0, (h_X7_refused M 2).2) else
  ((mN (oC (oN ((h_X7_refused M 0).2) (h_X7_copyState (mK ((h_X7_refused M 0).2)) (mN ((h_X7_refused M 0).2)) ((327 * x).toNatClampNeg) ((0 : Int32).toNatClampNeg))) 0)) 1, (oC (oN ((h_X7_refused M 0).2) (h_X7_copyState (mK ((h_X7_refused M 0).2)) (mN ((h_X7_refused M 0).2)) ((327 * x).toNatClampNeg) ((0 : Int32).toNatClampNeg))) 0))
-- 33.mod8.lean.txt
theorem cp_lp (f : Rw) (i0 i1 : Nat) : ∀ (n k : Nat) (g2 : Rw) (j : Nat), k + n = 328 → k ≤ 327 → lp_cpSt f i0 i1 n k g2 j = if i1 + k ≤ j ∧ j < i1 + 327 then f (i0 + (j - i1)) else g2 j := by
  intro n
  induction n with
  | zero => intro k g2 j h1 h2; omega
  | succ n ih =>
    intro k g2 j h1 h2
    rw [lp_cpSt]
    by_cases c1 : (327 : Int32) ≤ nI k
    · rw [if_pos c1, if_neg]
      intro z
      exact absurd c1 (show ¬ (327 : Int32) ≤ nI k from nI_ge (a := k) (b := 327) (by omega) (by decide))
    · rw [if_neg c1]
      have h9 : k < 327 := kN (B := 327) c1 (by omega) (by omega)
      rw [ih (k + 1) _ j (by omega) (by omega)]
      by_cases c2 : i1 + (k + 1) ≤ j ∧ j < i1 + 327
      · rw [if_pos c2, if_pos ⟨by omega, c2.2⟩]
      · rw [if_neg c2]
        by_cases c3 : j = i1 + k
        · subst c3
          rw [pk_us, if_pos ⟨by omega, by omega⟩]
          congr 1
          omega
        · rw [pk_un c3, if_neg (by omega)]
theorem cp_at (f g : Rw) (i0 i1 j : Nat) : h_X7_copyState f g i0 i1 j = if i1 ≤ j ∧ j < i1 + 327 then f (i0 + (j - i1)) else g j := cp_lp f i0 i1 _ 0 g j (by omega) (by omega)
theorem cp_00 (f g : Rw) {j : Nat} (h : j < 327) : h_X7_copyState f g 0 0 j = f j := by
  rw [cp_at, if_pos ⟨by omega, by omega⟩]
  congr 1
  omega
theorem RI_cong {g g' : Rw} (h : RI g) (e : ∀ i, i < 327 → g' i = g i) : RI g' :=
  RI_same h (e 0 (by omega)) (e 3 (by omega)) fun c hc r => by
    have hm := h.m.2
    exact RC_same r (e _ (by omega)) (e _ (by omega)) (e _ (by omega))
theorem RI_cp {f g : Rw} (h : RI f) : RI (h_X7_copyState f g 0 0) := RI_cong h fun i hi => cp_00 f g hi
theorem RI_cp0 {M : Mo} {w : Int32} (h : RI (mN M)) : RI (mR (oR (h_X7_refused M w).2 (h_X7_copyState (mN (h_X7_refused M w).2) (mR (h_X7_refused M w).2) 0 0))) := by
  rw [mR_oR, ref_N]
  exact RI_cp h
theorem le100 {k : Nat} (h : ¬ (100 : Int32) < nI k) (hk : k < 2 ^ 31) : k ≤ 100 := by
  rw [Int32.lt_iff_toInt_lt, nI_toInt hk, show (100 : Int32).toInt = 100 by decide] at h
  omega

def lp_rGapIn (len : Int32) : Nat → Nat → Mo → Int32 × Mo
  | 0, _, M2 => (-1, M2)
  | n + 1, k, M2 => if 100 < (nI k) then ((-1), M2) else
    if (f_X7_suffices (mR M2) len) = 0 then lp_rGapIn len n (k + 1) (oR M2 ((h_X7_minute (mR M2)).2)) else
    (nI k, M2)
def h_X7_gapIn (M : Mo) (len : Int32) : Int32 × Mo :=
  if (f_X7_isLength len) = 0 then (0, (h_X7_refused M 1).2) else
  lp_rGapIn len 102 0 (oR ((h_X7_refused M 0).2) (h_X7_copyState (mN ((h_X7_refused M 0).2)) (mR ((h_X7_refused M 0).2)) 0 0))
-- 34.mod9.lean.txt
theorem clear_0 (g : Rw) (c : Int32) (to n k : Nat) : lp_rClear g c to n 0 k = 0 := by
  cases n with
  | zero => rfl
  | succ n =>
    rw [lp_rClear]
    split
    · rfl
    · rw [if_pos rfl]
theorem clear_to {g : Rw} {c : Int32} {fr to : Nat} (ht : to < 2 ^ 31) (h : ¬ f_X7_isClear g c fr to = 0) : to ≤ 80 := by
  rw [f_X7_isClear] at h
  by_cases c1 : (80 : Int32) < nI to
  · rw [if_pos c1, clear_0] at h
    exact absurd rfl h
  · exact le_nI' c1 ht
theorem mv_ok {g : Rw} {c x : Nat} (h : RI g) (hc : c < 40) (hx : x < 80) (hm : ¬ f_X7_canMove g c x = 0) : c < gm g ∧ f_X7_of g c 2 = 0 ∧ x + pj g c ≤ 80 := by
  rw [f_X7_canMove] at hm
  by_cases c1 : f_X7_isParked g (nI c) = 0
  · rw [if_pos c1] at hm
    exact absurd rfl hm
  · have q := parked_n h (by omega) c1
    have r := h.X q.1 q.2
    refine ⟨q.1, q.2, ?_⟩
    by_cases c2 : f_X7_of g c 3 ≤ nI x
    rotate_left
    · rw [r.1, nI_leI (by omega) (by omega)] at c2
      omega
    · rw [if_neg c1, if_pos c2, if_pos c2] at hm
      refine clear_to (g := g) (c := nI c) (fr := px g c) (by omega) fun z => hm ?_
      rw [if_pos z]
def h_X7_move (M : Mo) (c : Int32) (x : Int32) : Int32 × Mo :=
  if (f_X7_isCar (mN M) c) = 0 then (0, (h_X7_refused M 1).2) else
  if (f_X7_isCell x) = 0 then (0, (h_X7_refused M 1).2) else
  if (f_X7_canMove (mN M) c.toNatClampNeg x.toNatClampNeg) = 0 then (0, (h_X7_refused M 2).2) else
  ((h_X7_moveOn (mN (h_X7_remember ((h_X7_refused M 0).2))) c.toNatClampNeg x.toNatClampNeg).1, (oN (h_X7_remember ((h_X7_refused M 0).2)) ((h_X7_moveOn (mN (h_X7_remember ((h_X7_refused M 0).2))) c.toNatClampNeg x.toNatClampNeg).2)))
-- 35.mod10.lean.txt
theorem of_cp (f g : Rw) {c w : Nat} (hc : c < 40) (hw : w < 6) : f_X7_of (h_X7_copyState f g 0 0) c w = f_X7_of f c w := cp_00 f g (by omega)
theorem mv_cp {g f : Rw} {c x : Nat} (h : RI g) (hc : c < 40) (hx : x < 80) (hm : ¬ f_X7_canMove g c x = 0) : f_X7_of (h_X7_copyState g f 0 0) c 3 = nI (px (h_X7_copyState g f 0 0) c) ∧ f_X7_of (h_X7_copyState g f 0 0) c 0 = nI (pj (h_X7_copyState g f 0 0) c) ∧ px (h_X7_copyState g f 0 0) c + pj (h_X7_copyState g f 0 0) c ≤ 80 ∧ x + pj (h_X7_copyState g f 0 0) c ≤ 80 := by
  have q := mv_ok h hc hx hm
  have r := h.X q.1 q.2.1
  have e3 := of_cp g f (c := c) (w := 3) hc (by omega)
  have e0 := of_cp g f (c := c) (w := 0) hc (by omega)
  have p3 : px (h_X7_copyState g f 0 0) c = px g c := by rw [px, e3, px]
  have p0 : pj (h_X7_copyState g f 0 0) c = pj g c := by rw [pj, e0, pj]
  rw [e3, e0, p3, p0]
  exact ⟨r.1, r.2.1, r.2.2, q.2.2⟩

def lp_rHelps (c : Nat) (len : Int32) : Nat → Int32 → Int32 → Nat → Mo → Int32 × Mo
  | 0, best, _, _, M2 => (best, M2)
  | n + 1, best, least, k, M2 => if 80 ≤ (nI k) then (best, M2) else
    if (f_X7_canMove (mN M2) c k) = 0 then lp_rHelps c len n best least (k + 1) M2 else
    if (f_X7_suffices (mH (oH (oH M2 (h_X7_copyState (mN M2) (mH M2) 0 0)) ((h_X7_moveOn (mH (oH M2 (h_X7_copyState (mN M2) (mH M2) 0 0))) c k).2))) len) = 0 then lp_rHelps c len n best least (k + 1) (oH (oH M2 (h_X7_copyState (mN M2) (mH M2) 0 0)) ((h_X7_moveOn (mH (oH M2 (h_X7_copyState (mN M2) (mH M2) 0 0))) c k).2)) else
    if best = (-1) then lp_rHelps c len n (nI k) ((h_X7_moveOn (mH (oH M2 (h_X7_copyState (mN M2) (mH M2) 0 0))) c k).1) (k + 1) (oH (oH M2 (h_X7_copyState (mN M2) (mH M2) 0 0)) ((h_X7_moveOn (mH (oH M2 (h_X7_copyState (mN M2) (mH M2) 0 0))) c k).2)) else
    if least ≤ ((h_X7_moveOn (mH (oH M2 (h_X7_copyState (mN M2) (mH M2) 0 0))) c k).1) then lp_rHelps c len n best least (k + 1) (oH (oH M2 (h_X7_copyState (mN M2) (mH M2) 0 0)) ((h_X7_moveOn (mH (oH M2 (h_X7_copyState (mN M2) (mH M2) 0 0))) c k).2)) else
    lp_rHelps c len n (nI k) ((h_X7_moveOn (mH (oH M2 (h_X7_copyState (mN M2) (mH M2) 0 0))) c k).1) (k + 1) (oH (oH M2 (h_X7_copyState (mN M2) (mH M2) 0 0)) ((h_X7_moveOn (mH (oH M2 (h_X7_copyState (mN M2) (mH M2) 0 0))) c k).2))
def h_X7_helps (M : Mo) (c : Nat) (len : Int32) : Int32 × Mo :=
  lp_rHelps c len 81 (-1) 0 0 M
theorem rHelps_N (c : Nat) (len : Int32) : ∀ (n : Nat) (best least : Int32) (k : Nat) (M2 : Mo), mN (lp_rHelps c len n best least k M2).2 = mN M2 := by
  intro n
  induction n with
  | zero => intro best least k M2; rfl
  | succ n ih =>
    intro best least k M2
    rw [lp_rHelps]
    repeat' split
    all_goals (try rw [ih])
    all_goals (try simp only [mN_oH])
theorem helps_N (M : Mo) (c : Nat) (len : Int32) : mN (h_X7_helps M c len).2 = mN M := rHelps_N ..

def lp_rMover (M : Mo) (len w : Int32) : Nat → Nat → Mo → Int32 × Mo
  | 0, _, M2 => (-1, M2)
  | n + 1, k, M2 => if ((mN M2) 0) ≤ (nI k) then ((-1), M2) else
    if (f_X7_suffices (mN M2) len) = 0 then (if (f_X7_isParked (mN M2) (nI k)) = 0 then lp_rMover M len w n (k + 1) M2 else
      if ((h_X7_helps M2 k len).1) = (-1) then lp_rMover M len w n (k + 1) ((h_X7_helps M2 k len).2) else
      if w = 0 then (nI k, (h_X7_helps M2 k len).2) else
      ((h_X7_helps M2 k len).1, (h_X7_helps M2 k len).2)) else
    ((-1), M2)
def h_X7_mover (M : Mo) (len : Int32) (w : Int32) : Int32 × Mo :=
  if (f_X7_isLength len) = 0 then (0, (h_X7_refused M 1).2) else
  if (f_X7_in w.toInt64 0 1) = 0 then (0, (h_X7_refused M 1).2) else
  lp_rMover M len w (gm (mN M) + 1) 0 ((h_X7_refused M 0).2)
-- 36.mod11.lean.txt
theorem lpCells_free (g : Rw) (j : Nat) : ∀ (n k : Nat), k ≤ 80 → k + n = 81 → j ≤ k → (∀ i, j ≤ i → i < k → g (7 + i) = -1) → ∀ i, j ≤ i → i < j + lp_gapCells g j n k → g (7 + i) = -1 := by
  intro n
  induction n with
  | zero => intro k hk hn; omega
  | succ n ih =>
    intro k hk hn hj hf i h1 h2
    rw [lp_gapCells] at h2
    by_cases c1 : (80 : Int32) ≤ nI k
    · rw [if_pos c1] at h2
      exact hf i h1 (by omega)
    · rw [if_neg c1] at h2
      have hlt : k < 80 := kN (B := 80) c1 (by omega) (by omega)
      by_cases c2 : g (7 + k) = -1
      · rw [if_pos c2] at h2
        refine ih (k + 1) (by omega) (by omega) (by omega) (fun i' a b => ?_) i h1 h2
        by_cases e : i' = k
        · rw [e]
          exact c2
        · exact hf i' a (by omega)
      · rw [if_neg c2] at h2
        exact hf i h1 (by omega)
theorem cells_free (g : Rw) {j : Nat} (hj : j ≤ 80) {i : Nat} (h1 : j ≤ i) (h2 : i < j + f_X7_gapCells g j) : g (7 + i) = -1 :=
  lpCells_free g j _ j hj (by omega) (Nat.le_refl _) (fun i' a b => by omega) i h1 h2
/-- a place that was found: the car fits there, on free cells -/
def plF (g : Rw) (r : Int32) (j : Nat) : Prop := r = -1 ∨ ∃ x, r = nI x ∧ x + j ≤ 80 ∧ ∀ i, x ≤ i → i < x + j → g (7 + i) = -1
theorem rRule_fr {g : Rw} {j r : Nat} (hj : j ≤ 8) (hr : r ≤ 4) (h3 : g 3 = nI r) : ∀ (n : Nat) (best : Int32) (k : Nat), k ≤ 80 → 80 < k + n → plF g best j → plF g (lp_rRule g (nI j) n best k) j := by
  intro n
  induction n with
  | zero => intro best k hk hn hb; exact hb
  | succ n ih =>
    intro best k hk hn hb
    rw [lp_rRule]
    by_cases c1 : (80 : Int32) ≤ nI k
    · rw [if_pos c1]
      exact hb
    · rw [if_neg c1]
      have hlt : k < 80 := kN (B := 80) c1 (by omega) (by omega)
      have hx := next_gt g hlt
      have i1 := ih best _ hx.2 (by omega) hb
      obtain ⟨e1, e2⟩ := key_room hj hr h3 (g := g) hk
      by_cases c2 : nI (f_X7_gapCells g k) < nI j + g 3
      · rw [if_pos c2, if_pos rfl]
        exact i1
      · rw [if_neg c2]
        rw [e1] at c2
        have i2 := ih (nI k) _ hx.2 (by omega) (Or.inr ⟨k, rfl, by omega, fun i a b => cells_free g hk a (by omega)⟩)
        repeat' split
        all_goals first | exact i1 | exact i2
theorem byRule_fr {g : Rw} {j r : Nat} (hj : j ≤ 8) (hr : r ≤ 4) (h3 : g 3 = nI r) : plF g (f_X7_byRule g (nI j)) j := rRule_fr hj hr h3 _ _ _ (from_le g (by omega)).2 (by omega) (Or.inl rfl)
theorem rPick_fr {g : Rw} {j r : Nat} (hj : j ≤ 8) (hr : r ≤ 4) (h3 : g 3 = nI r) : ∀ (n i k : Nat), i < 2 ^ 31 → k ≤ 80 → 80 < k + n → plF g (lp_rPick (nI j) n (nI i) k g).1 j := by
  intro n
  induction n with
  | zero => intro i k hi hk hn; omega
  | succ n ih =>
    intro i k hi hk hn
    rw [lp_rPick]
    by_cases c1 : (80 : Int32) ≤ nI k
    · rw [if_pos c1]
      exact Or.inl rfl
    · rw [if_neg c1]
      have hlt : k < 80 := kN (B := 80) c1 (by omega) (by omega)
      have hx := next_gt g hlt
      obtain ⟨e1, e2⟩ := key_room hj hr h3 (g := g) hk
      by_cases c2 : nI (f_X7_gapCells g k) < nI j + g 3
      · rw [if_pos c2, if_pos (show (0 : Int32) ≤ nI i from nI_pos' hi), show nI i - 0 = nI i from pk_sub (Nat.zero_le i)]
        exact ih i _ hi hx.2 (by omega)
      · rw [if_neg c2]
        rw [e1] at c2
        have e3 : nI (f_X7_gapCells g k) - nI j + 1 = nI (f_X7_gapCells g k - j + 1) := by rw [pk_sub (by omega), nI_1]
        rw [e3]
        by_cases c3 : nI (f_X7_gapCells g k - j + 1) ≤ nI i
        · rw [if_pos c3]
          rw [nI_leI (by omega) hi] at c3
          rw [pk_sub c3]
          exact ih _ _ (by omega) hx.2 (by omega)
        · rw [if_neg c3]
          rw [nI_leI (by omega) hi] at c3
          exact Or.inr ⟨k + i, nI_add k i, by omega, fun i' a b => cells_free g hk (by omega) (by omega)⟩
theorem plF_cong {g g' : Rw} {r : Int32} {j : Nat} (h : plF g r j) (e : ∀ i, 7 ≤ i → i < 87 → g' i = g i) : plF g' r j := by
  rcases h with z | ⟨x, a, b, d⟩
  · exact Or.inl z
  · exact Or.inr ⟨x, a, b, fun i h1 h2 => (e _ (by omega) (by omega)).trans (d i h1 h2)⟩
theorem rAll_fr {g : Rw} {j r : Nat} (hj : j ≤ 8) (hr : r ≤ 4) (h3 : g 3 = nI r) : ∀ (n t k : Nat), t + (80 - k) * 82 < 10000 → k ≤ 80 → 80 < k + n → plF g (lp_rAll g (nI j) n (nI t) k).1 j := by
  intro n
  induction n with
  | zero => intro t k ht hk hn; omega
  | succ n ih =>
    intro t k ht hk hn
    rw [lp_rAll]
    by_cases c1 : (80 : Int32) ≤ nI k
    · rw [if_pos c1]
      by_cases c2 : nI t = 0
      · rw [if_pos c2]
        exact Or.inl rfl
      · rw [if_neg c2]
        obtain ⟨i, hi, e⟩ := ush_n (f_X7_chance g * 6364136223846793005 + 1442695040888963407)
        have t0 : 0 < t := Nat.pos_of_ne_zero fun z => c2 (by rw [z]; rfl)
        rw [e, pk_rem hi t0 (by omega)]
        exact plF_cong (rPick_fr hj hr ((lay_3 g _ (by decide) (by decide)).trans h3) _ _ _ (Nat.lt_of_lt_of_le (Nat.mod_lt _ t0) (by omega)) (from_le _ (by omega)).2 (by omega)) fun i h1 _ => (lay_3 g _ (by omega) (by omega)).symm
    · rw [if_neg c1]
      have hlt : k < 80 := kN (B := 80) c1 (by omega) (by omega)
      have hx := next_gt g hlt
      obtain ⟨e1, e2⟩ := key_room hj hr h3 (g := g) hk
      by_cases c2 : nI (f_X7_gapCells g k) < nI j + g 3
      · rw [if_pos c2, show nI t + 0 = nI t from nI_add t 0]
        exact ih t _ (by omega) hx.2 (by omega)
      · rw [if_neg c2]
        rw [e1] at c2
        rw [pk_sub (by omega), nI_1, nI_add]
        exact ih _ _ (by omega) hx.2 (by omega)
theorem byChance_g (g : Rw) (len : Int32) {i : Nat} (h5 : i ≠ 5) (h6 : i ≠ 6) : (h_X7_byChance g len).2 i = g i := rAll_g g len h5 h6 _ _ _
theorem byChance_fr {g : Rw} {j r : Nat} (hj : j ≤ 8) (hr : r ≤ 4) (h3 : g 3 = nI r) : plF g (h_X7_byChance g (nI j)).1 j := rAll_fr hj hr h3 _ 0 _ (by have := from_le g (j := 0) (by omega); omega) (from_le g (by omega)).2 (by omega)
theorem place_fr {g : Rw} {j : Nat} (hj : j ≤ 8) (h3 : ∃ r, r ≤ 4 ∧ g 3 = nI r) : plF g (h_X7_placeFor g (nI j)).1 j := by
  obtain ⟨r, hr, h3⟩ := h3
  rw [h_X7_placeFor]
  split
  · exact byChance_fr hj hr h3
  · exact byRule_fr hj hr h3
theorem rFill_at (x j : Nat) (v : Int32) (hx : x + j ≤ 80) : ∀ (n k : Nat) (g : Rw) (i : Nat), x ≤ k → k ≤ x + j → k + n = x + j + 1 → lp_rFill x j v n k g i = if 7 + k ≤ i ∧ i < 7 + x + j then v else g i := by
  intro n
  induction n with
  | zero => intro k g i h1 h2 h3; omega
  | succ n ih =>
    intro k g i h1 h2 h3
    rw [lp_rFill]
    by_cases c1 : nI (x + j) ≤ nI k
    · rw [nI_leI (by omega) (by omega)] at c1
      rw [if_pos ((nI_leI (by omega) (by omega)).mpr c1), if_neg (by omega)]
    · rw [if_neg c1]
      rw [nI_leI (by omega) (by omega)] at c1
      rw [ih (k + 1) _ i (by omega) (by omega) (by omega)]
      by_cases c2 : 7 + (k + 1) ≤ i ∧ i < 7 + x + j
      · rw [if_pos c2, if_pos ⟨by omega, c2.2⟩]
      · rw [if_neg c2]
        by_cases c3 : i = 7 + k
        · subst c3
          rw [pk_us, if_pos ⟨by omega, by omega⟩]
        · rw [pk_un c3, if_neg (by omega)]
theorem fill_at (g : Rw) {x j : Nat} (v : Int32) (hx : x + j ≤ 80) (i : Nat) : h_X7_fill g x j v i = if 7 + x ≤ i ∧ i < 7 + x + j then v else g i := rFill_at x j v hx _ x g i (Nat.le_refl _) (by omega) (by omega)
/-- how many of the first n cells are free -/
def fre (g : Rw) : Nat → Nat
  | 0 => 0
  | n + 1 => fre g n + if g (7 + n) = -1 then 1 else 0
theorem fre_le (g : Rw) : ∀ n, fre g n ≤ n := by
  intro n
  induction n with
  | zero => exact Nat.le_refl _
  | succ n ih => rw [fre]; split <;> omega
theorem fre_mono {g g' : Rw} : ∀ n, (∀ i, i < n → g' (7 + i) = -1 → g (7 + i) = -1) → fre g' n ≤ fre g n := by
  intro n
  induction n with
  | zero => intro _; exact Nat.le_refl _
  | succ n ih =>
    intro h
    have h1 := ih fun i hi => h i (by omega)
    have h2 := h n (by omega)
    rw [fre, fre]
    by_cases c : g' (7 + n) = -1
    · rw [if_pos c, if_pos (h2 c)]
      omega
    · rw [if_neg c]
      omega
theorem fre_lt {g g' : Rw} {x : Nat} (hx : g (7 + x) = -1) (hx' : ¬ g' (7 + x) = -1) : ∀ n, x < n → (∀ i, i < n → g' (7 + i) = -1 → g (7 + i) = -1) → fre g' n < fre g n := by
  intro n
  induction n with
  | zero => intro h; omega
  | succ n ih =>
    intro h1 h
    rw [fre, fre]
    by_cases e : x = n
    · subst e
      have h2 := fre_mono (g := g) (g' := g') x fun i hi => h i (by omega)
      rw [if_neg hx', if_pos hx]
      omega
    · have h2 := ih (by omega) fun i hi => h i (by omega)
      have h3 := h n (by omega)
      by_cases c : g' (7 + n) = -1
      · rw [if_pos c, if_pos (h3 c)]
        omega
      · rw [if_neg c]
        omega
theorem len_2 {x : Int32} (h : ¬ f_X7_isLength x = 0) : 2 ≤ x.toNatClampNeg ∧ x.toNatClampNeg ≤ 8 ∧ x = nI x.toNatClampNeg := by
  rw [f_X7_isLength] at h
  have h1 := in_ne h
  rw [i64, show (2 : Int64).toInt = 2 by decide, show (8 : Int64).toInt = 8 by decide] at h1
  obtain ⟨j, hj, rfl⟩ := nI_of (x := x) (by rw [Int32.lt_iff_toInt_lt, Int32.toInt_zero]; omega)
  rw [nI_toInt hj] at h1
  rw [nI_clamp hj]
  exact ⟨by omega, by omega, rfl⟩
theorem jam_by {g : Rw} {len : Int32} (hl : 2 ≤ len.toNatClampNeg ∧ len.toNatClampNeg ≤ 8 ∧ len = nI len.toNatClampNeg) (h3 : ∃ r, r ≤ 4 ∧ g 3 = nI r) : plF (h_X7_byChance g len).2 (h_X7_byChance g len).1 len.toNatClampNeg ∧ (∃ r, r ≤ 4 ∧ (h_X7_byChance g len).2 3 = nI r) ∧ fre (h_X7_byChance g len).2 80 = fre g 80 := by
  obtain ⟨r, hr, h3⟩ := h3
  have p := byChance_fr hl.2.1 hr h3
  rw [← hl.2.2] at p
  have e : ∀ i, 7 ≤ i → i < 87 → (h_X7_byChance g len).2 i = g i := fun i h1 h2 => byChance_g g len (by omega) (by omega)
  exact ⟨plF_cong p e, ⟨r, hr, (byChance_g g len (by omega) (by omega)).trans h3⟩, Nat.le_antisymm (fre_mono 80 fun i hi z => by rw [← e _ (by omega) (by omega)]; exact z) (fre_mono 80 fun i hi z => by rw [e _ (by omega) (by omega)]; exact z)⟩
theorem jam_fill {g : Rw} {x len : Int32} (hl : 2 ≤ len.toNatClampNeg ∧ len.toNatClampNeg ≤ 8 ∧ len = nI len.toNatClampNeg) (hp : plF g x len.toNatClampNeg) (hx : ¬ x = -1) : (x = nI x.toNatClampNeg ∧ x.toNatClampNeg + len.toNatClampNeg ≤ 80) ∧ fre (h_X7_fill g x.toNatClampNeg len.toNatClampNeg 100) 80 < fre g 80 := by
  rcases hp with z | ⟨u, e, hu, hf⟩
  · exact absurd z hx
  · have eu : x.toNatClampNeg = u := by rw [e, nI_clamp (by omega)]
    rw [eu]
    refine ⟨⟨e, hu⟩, fre_lt (x := u) (hf u (Nat.le_refl _) (by omega)) ?_ 80 (by omega) fun i hi z => ?_⟩
    · rw [fill_at g _ hu, if_pos ⟨by omega, by omega⟩]
      decide
    · rw [fill_at g _ hu] at z
      by_cases c : 7 + u ≤ 7 + i ∧ 7 + i < 7 + u + len.toNatClampNeg
      · rw [if_pos c] at z
        exact absurd z (by decide)
      · rw [if_neg c] at z
        exact z
theorem jam0 {M : Mo} {s : Int64} (h : RI (mN M)) : ∃ r, r ≤ 4 ∧ mR (oR (oR (h_X7_refused M 0).2 (h_X7_copyState (mN (h_X7_refused M 0).2) (mR (h_X7_refused M 0).2) 0 0)) (h_X7_layChance (mR (oR (h_X7_refused M 0).2 (h_X7_copyState (mN (h_X7_refused M 0).2) (mR (h_X7_refused M 0).2) 0 0))) s)) 3 = nI r := by
  obtain ⟨r, hr, e⟩ := h.2.1
  refine ⟨r, hr, ?_⟩
  rw [mR_oR, mR_oR, lay_3 _ _ (by omega) (by omega), cp_00 _ _ (by omega), ref_N]
  exact e

def lp_rJam (len : Int32) : Nat → Int32 → Int32 → Mo → Int32 × Mo
  | 0, acc, _, M2 => (acc, M2)
  | n + 1, acc, x, M2 => if x = (-1) then (acc, M2) else
    lp_rJam len n (acc + 1) ((h_X7_byChance (mR (oR M2 (h_X7_fill (mR M2) x.toNatClampNeg len.toNatClampNeg 100))) len).1) (oR (oR M2 (h_X7_fill (mR M2) x.toNatClampNeg len.toNatClampNeg 100)) ((h_X7_byChance (mR (oR M2 (h_X7_fill (mR M2) x.toNatClampNeg len.toNatClampNeg 100))) len).2))
def h_X7_jam (M : Mo) (len : Int32) (sd : Int64) : Int32 × Mo :=
  if (f_X7_isLength len) = 0 then (0, (h_X7_refused M 1).2) else
  lp_rJam len 81 0 ((h_X7_byChance (mR (oR (oR ((h_X7_refused M 0).2) (h_X7_copyState (mN ((h_X7_refused M 0).2)) (mR ((h_X7_refused M 0).2)) 0 0)) (h_X7_layChance (mR (oR ((h_X7_refused M 0).2) (h_X7_copyState (mN ((h_X7_refused M 0).2)) (mR ((h_X7_refused M 0).2)) 0 0))) sd))) len).1) (oR (oR (oR ((h_X7_refused M 0).2) (h_X7_copyState (mN ((h_X7_refused M 0).2)) (mR ((h_X7_refused M 0).2)) 0 0)) (h_X7_layChance (mR (oR ((h_X7_refused M 0).2) (h_X7_copyState (mN ((h_X7_refused M 0).2)) (mR ((h_X7_refused M 0).2)) 0 0))) sd)) ((h_X7_byChance (mR (oR (oR ((h_X7_refused M 0).2) (h_X7_copyState (mN ((h_X7_refused M 0).2)) (mR ((h_X7_refused M 0).2)) 0 0)) (h_X7_layChance (mR (oR ((h_X7_refused M 0).2) (h_X7_copyState (mN ((h_X7_refused M 0).2)) (mR ((h_X7_refused M 0).2)) 0 0))) sd))) len).2))
-- 37.mod12.lean.txt
theorem mins_lp (x : Int32) : ∀ (n k : Nat) (acc : Int32) (g : Rw), RI g → RI (lp_rMin x n k acc g).2 := by
  intro n
  induction n with
  | zero => intro k acc g h; exact h
  | succ n ih =>
    intro k acc g h
    rw [lp_rMin]
    split
    · exact h
    · exact ih _ _ _ (minute_ok h).1
theorem RI_mins {g : Rw} (h : RI g) (x : Int32) : RI (h_X7_minutesOn g x).2 := mins_lp x _ _ _ g h
theorem cell_RC {g : Rw} {i c w : Nat} (v : Int32) (h : i < 87) : f_X7_of (upd g i v) c w = f_X7_of g c w := of_upd g v h
theorem RI_cell {g : Rw} (h : RI g) {x : Nat} (hx : x < 80) (v : Int32) : RI (upd g (7 + x) v) :=
  RI_same h (pk_un (by omega)) (pk_un (by omega)) fun d _ r => RC_same r (of_upd _ _ (by omega)) (of_upd _ _ (by omega)) (of_upd _ _ (by omega))
theorem RI_hyd {g : Rw} (h : RI g) {x : Nat} (hx : x < 80) (on : Int32) : RI (h_X7_hydrantOn g x on).2 := by
  rw [h_X7_hydrantOn]
  repeat' split
  all_goals exact RI_cell h hx _
theorem RI_set {g : Rw} (h : RI g) {w : Nat} (hw : w < 3) (v : Int32) (h1 : w = 1 → ∃ r, r ≤ 4 ∧ v = nI r) : RI (upd g (2 + w) v) := by
  obtain ⟨a, b, d⟩ := h
  have e0 : upd g (2 + w) v 0 = g 0 := pk_un (by omega)
  have e : gm (upd g (2 + w) v) = gm g := by rw [gm, e0, gm]
  refine ⟨by rw [e0]; exact a, ?_, fun c hc => RC_same (d c (by rw [← e]; exact hc)) (of_upd _ _ (by omega)) (of_upd _ _ (by omega)) (of_upd _ _ (by omega))⟩
  by_cases c : w = 1
  · subst c
    obtain ⟨r, hr, ev⟩ := h1 rfl
    exact ⟨r, hr, pk_us.trans ev⟩
  · rw [show upd g (2 + w) v 3 = g 3 from pk_un (by omega)]
    exact b
theorem RI_chg {g : Rw} (h : RI g) {w : Nat} (hw : w < 3) (v : Int32) (h1 : w = 1 → ∃ r, r ≤ 4 ∧ v = nI r) : RI (h_X7_change g w v).2 := RI_set h hw v h1
theorem lay_hi (g : Rw) {c w i : Nat} (v : Int32) (h : i ≠ 87 + 6 * c + w) : h_X7_lay g c w v i = g i := by rw [h_X7_lay, pk_un h]
/-- the row of a car that comes -/
abbrev cw6 (g : Rw) (c : Nat) (len stay : Int32) : Rw := h_X7_lay (h_X7_lay (h_X7_lay (h_X7_lay (h_X7_lay (h_X7_lay g c 0 len) c 1 stay) c 2 1) c 3 (-1)) c 4 0) c 5 0
theorem cw6_lo (g : Rw) (c : Nat) (len stay : Int32) {i : Nat} (h : i < 87) : cw6 g c len stay i = g i := by
  rw [cw6, lay_lo _ _ h, lay_lo _ _ h, lay_lo _ _ h, lay_lo _ _ h, lay_lo _ _ h, lay_lo _ _ h]
theorem cw6_ne (g : Rw) {c d : Nat} (len stay : Int32) {w : Nat} (hw : w < 6) (h : d ≠ c) : f_X7_of (cw6 g c len stay) d w = f_X7_of g d w := by
  rw [cw6]
  rw [of_lay_ne _ _ (by omega) hw (Or.inl (Ne.symm h)), of_lay_ne _ _ (by omega) hw (Or.inl (Ne.symm h)), of_lay_ne _ _ (by omega) hw (Or.inl (Ne.symm h)), of_lay_ne _ _ (by omega) hw (Or.inl (Ne.symm h)), of_lay_ne _ _ (by omega) hw (Or.inl (Ne.symm h)), of_lay_ne _ _ (by omega) hw (Or.inl (Ne.symm h))]
theorem cw6_0 (g : Rw) (c : Nat) (len stay : Int32) : f_X7_of (cw6 g c len stay) c 0 = len := by
  rw [cw6, of_lay_ne _ _ (by omega) (by omega) (Or.inr (by omega)), of_lay_ne _ _ (by omega) (by omega) (Or.inr (by omega)), of_lay_ne _ _ (by omega) (by omega) (Or.inr (by omega)), of_lay_ne _ _ (by omega) (by omega) (Or.inr (by omega)), of_lay_ne _ _ (by omega) (by omega) (Or.inr (by omega)), of_lay_eq]
theorem cw6_2 (g : Rw) (c : Nat) (len stay : Int32) : f_X7_of (cw6 g c len stay) c 2 = 1 := by
  rw [cw6, of_lay_ne _ _ (by omega) (by omega) (Or.inr (by omega)), of_lay_ne _ _ (by omega) (by omega) (Or.inr (by omega)), of_lay_ne _ _ (by omega) (by omega) (Or.inr (by omega)), of_lay_eq]
theorem come_g1 {g : Rw} (h : RI g) (h40 : gm g < 40) (len stay : Int32) : (cw6 g (gm g) len stay) 0 + 1 = nI (gm g + 1) := by
  rw [cw6_lo _ _ _ _ (by omega), h.m.1, nI_1]
theorem RI_new {g : Rw} (h : RI g) (h40 : gm g < 40) {len stay : Int32} (hl : ∃ j, 2 ≤ j ∧ j ≤ 8 ∧ len = nI j) : RI (upd (cw6 g (gm g) len stay) 0 ((cw6 g (gm g) len stay) 0 + 1)) ∧ gm (upd (cw6 g (gm g) len stay) 0 ((cw6 g (gm g) len stay) 0 + 1)) = gm g + 1 := by
  have e0 : upd (cw6 g (gm g) len stay) 0 ((cw6 g (gm g) len stay) 0 + 1) 0 = nI (gm g + 1) := pk_us.trans (come_g1 h h40 len stay)
  have e : gm (upd (cw6 g (gm g) len stay) 0 ((cw6 g (gm g) len stay) 0 + 1)) = gm g + 1 := by rw [gm, e0, nI_clamp (by omega)]
  refine ⟨⟨⟨gm g + 1, by omega, e0⟩, ?_, fun c hc => ?_⟩, e⟩
  · rw [show upd (cw6 g (gm g) len stay) 0 ((cw6 g (gm g) len stay) 0 + 1) 3 = g 3 from (pk_un (by omega)).trans (cw6_lo _ _ _ _ (by omega))]
    exact h.2.1
  · rw [e] at hc
    by_cases ec : c = gm g
    · subst ec
      obtain ⟨j, h2, h8, ej⟩ := hl
      refine ⟨⟨j, h2, h8, ?_⟩, fun z => ?_⟩
      · rw [of_upd _ _ (by omega), cw6_0, ej]
      · rw [of_upd _ _ (by omega), cw6_2] at z
        exact absurd z (by decide)
    · exact RC_same (h.2.2 c (by omega)) (by rw [of_upd _ _ (by omega), cw6_ne _ _ _ (by omega) ec]) (by rw [of_upd _ _ (by omega), cw6_ne _ _ _ (by omega) ec]) (by rw [of_upd _ _ (by omega), cw6_ne _ _ _ (by omega) ec])
theorem RI_come {g : Rw} (h : RI g) (h40 : gm g < 40) {len stay : Int32} (hl : ∃ j, 2 ≤ j ∧ j ≤ 8 ∧ len = nI j) : RI (h_X7_comeOn g len stay).2 := by
  rw [h_X7_comeOn]
  have q := RI_new h h40 hl (stay := stay)
  exact RI_parks q.1 (by rw [q.2]; omega)
theorem RI_moveOn {g : Rw} (h : RI g) {c x : Nat} (hc : c < gm g) (hp : f_X7_of g c 2 = 0) (hx : x + pj g c ≤ 80) : RI (h_X7_moveOn g c x).2 := by
  have q := h.X hc hp
  have m := h.m.2
  have r0 := RI_fill (v := (-1)) h q.2.2
  have r : RI (h_X7_lay (h_X7_fill (h_X7_fill g (px g c) (pj g c) (-1)) x (pj g c) (nI c)) c 3 (nI x)) := by
    have r1 := RI_fill (v := nI c) r0 hx
    refine RI_same r1 (lay_lo _ _ (by omega)) (lay_lo _ _ (by omega)) fun d hd r => ?_
    by_cases e : d = c
    · subst e
      have f0 : f_X7_of (h_X7_lay (h_X7_fill (h_X7_fill g (px g d) (pj g d) (-1)) x (pj g d) (nI d)) d 3 (nI x)) d 0 = f_X7_of g d 0 := by rw [of_lay_ne _ _ (by omega) (by omega) (Or.inr (by omega)), of_fill _ _ hx, of_fill _ _ q.2.2]
      have ep : pj (h_X7_lay (h_X7_fill (h_X7_fill g (px g d) (pj g d) (-1)) x (pj g d) (nI d)) d 3 (nI x)) d = pj g d := by rw [pj, f0, pj]
      refine ⟨by rw [f0]; exact (h.2.2 d hc).1, fun _ => ⟨x, of_lay_eq _ _ _ _, by rw [ep]; exact hx⟩⟩
    · exact RC_same r (of_lay_ne _ _ (by omega) (by omega) (Or.inl (Ne.symm e))) (of_lay_ne _ _ (by omega) (by omega) (Or.inl (Ne.symm e))) (of_lay_ne _ _ (by omega) (by omega) (Or.inl (Ne.symm e)))
  rw [h_X7_moveOn]
  split <;> exact r
theorem car_lt {g : Rw} {c : Nat} (h : RI g) (hc : c < 2 ^ 31) (hi : ¬ f_X7_isCar g (nI c) = 0) : c < gm g := by
  have hm := h.m
  obtain ⟨j, hj, e⟩ := car_n hm.1 hm.2 hi
  rw [nI_eq hc (by omega)] at e
  omega
theorem cell_lt {x : Nat} (hx : x < 2 ^ 31) (h : ¬ f_X7_isCell (nI x) = 0) : x < 80 := by
  obtain ⟨j, hj, e⟩ := rcell_n h
  rw [nI_eq hx (by omega)] at e
  omega
theorem hyd_n {g : Rw} {x on : Int32} (h : ¬ f_X7_canHydrant g x on = 0) : ∃ j, j < 80 ∧ x = nI j := by
  refine rcell_n fun z => h ?_
  rw [f_X7_canHydrant, if_pos z]
theorem hyd_lt {g : Rw} {x : Nat} {on : Int32} (hx : x < 2 ^ 31) (h : ¬ f_X7_canHydrant g (nI x) on = 0) : x < 80 := by
  obtain ⟨j, hj, e⟩ := hyd_n h
  rw [nI_eq hx (by omega)] at e
  omega
theorem set_lt {w : Nat} {v : Int32} (hw : w < 2 ^ 31) (h : ¬ f_X7_isSetting (nI w) v = 0) : w < 3 := by
  obtain ⟨j, hj, e⟩ := set_w h
  rw [nI_eq hw (by omega)] at e
  omega
theorem mv_all {g : Rw} {c x : Nat} (h : RI g) (hc : c < 40) (hx : x < 80) (hm : ¬ f_X7_canMove g c x = 0) : f_X7_of g c 3 = nI (px g c) ∧ f_X7_of g c 0 = nI (pj g c) ∧ px g c + pj g c ≤ 80 ∧ x + pj g c ≤ 80 := by
  have q := mv_ok h hc hx hm
  have r := h.X q.1 q.2.1
  exact ⟨r.1, r.2.1, r.2.2, q.2.2⟩
theorem len_2e {x : Int32} (h : ¬ f_X7_isLength x = 0) : ∃ j, 2 ≤ j ∧ j ≤ 8 ∧ x = nI j := ⟨_, len_2 h⟩
theorem in_nat2 {x : Int32} {lo hi : Int64} {a : Nat} (hlo : 0 ≤ lo.toInt) (hhi : hi.toInt = a) (h : ¬ f_X7_in x.toInt64 lo hi = 0) : ∃ j, j ≤ a ∧ x = nI j := by
  have h1 := in_ne h
  rw [i64, hhi] at h1
  obtain ⟨j, hj, rfl⟩ := nI_of (x := x) (by rw [Int32.lt_iff_toInt_lt, Int32.toInt_zero]; omega)
  rw [nI_toInt hj] at h1
  exact ⟨j, by omega, rfl⟩
theorem set_room {w : Nat} {v : Int32} (h : ¬ f_X7_isSetting (nI w) v = 0) (hw : w = 1) : ∃ r, r ≤ 4 ∧ v = nI r := by
  subst hw
  rw [f_X7_isSetting] at h
  by_cases c : f_X7_in v.toInt64 0 4 = 0
  · rw [if_neg (by decide), if_pos (by decide), if_pos c, if_neg (by decide)] at h
    exact absurd rfl h
  · exact in_nat2 (by decide) (by decide) c

def h_X7_command (M : Mo) (how : Int32) (q : Nat) : Int32 × Mo :=
  if how = 1 then (if 2 ≤ (nI (q % 100)) then (0, M) else
    if (f_X7_isLength (nI (q / 10000))) = 0 then (0, M) else
    if (f_X7_in ((nI ((q / 100) % 100)).toInt64) 1 99) = 0 then (0, M) else
    if 40 ≤ ((mR M) 0) then (0, M) else
    if (nI (q % 100)) = 1 then (if (f_X7_isParked (mR (oR M ((h_X7_comeOn (mR M) (nI (q / 10000)) (nI ((q / 100) % 100))).2))) ((h_X7_comeOn (mR M) (nI (q / 10000)) (nI ((q / 100) % 100))).1)) = 1 then (1, (oR M ((h_X7_comeOn (mR M) (nI (q / 10000)) (nI ((q / 100) % 100))).2))) else
      (0, (oR M ((h_X7_comeOn (mR M) (nI (q / 10000)) (nI ((q / 100) % 100))).2)))) else
    if (f_X7_isParked (mR (oR M ((h_X7_comeOn (mR M) (nI (q / 10000)) (nI ((q / 100) % 100))).2))) ((h_X7_comeOn (mR M) (nI (q / 10000)) (nI ((q / 100) % 100))).1)) = 0 then (1, (oR M ((h_X7_comeOn (mR M) (nI (q / 10000)) (nI ((q / 100) % 100))).2))) else
    (0, (oR M ((h_X7_comeOn (mR M) (nI (q / 10000)) (nI ((q / 100) % 100))).2)))) else
  if how = 2 then (if (nI (q % 1000)) = 0 then (if (f_X7_isParked (mR M) (nI (q / 1000))) = 0 then (0, M) else
      if ((h_X7_goes (mR M) (q / 1000) 2).1) < 0 then (0, (oR M ((h_X7_goes (mR M) (q / 1000) 2).2))) else
      (1, (oR M ((h_X7_goes (mR M) (q / 1000) 2).2)))) else
    (0, M)) else
  if how = 3 then (if (nI (q % 10)) = 0 then (if (f_X7_isCar (mR M) (nI (q / 1000))) = 0 then (0, M) else
      if (f_X7_isCell (nI ((q / 10) % 100))) = 0 then (0, M) else
      if (f_X7_canMove (mR M) (q / 1000) ((q / 10) % 100)) = 0 then (0, M) else
      if ((h_X7_moveOn (mR M) (q / 1000) ((q / 10) % 100)).1) < 0 then (0, (oR M ((h_X7_moveOn (mR M) (q / 1000) ((q / 10) % 100)).2))) else
      (1, (oR M ((h_X7_moveOn (mR M) (q / 1000) ((q / 10) % 100)).2)))) else
    (0, M)) else
  if how = 4 then (if (f_X7_in ((nI q).toInt64) 1 60) = 0 then (0, M) else
    if ((h_X7_minutesOn (mR M) (nI q)).1) < 0 then (0, (oR M ((h_X7_minutesOn (mR M) (nI q)).2))) else
    (1, (oR M ((h_X7_minutesOn (mR M) (nI q)).2)))) else
  if how = 5 then (if (nI ((q / 1000) % 10)) = 0 then (if (nI (q % 10)) = 0 then (if (f_X7_isSetting (nI (q / 10000)) (nI ((q / 10) % 100))) = 0 then (0, M) else
        if ((h_X7_change (mR M) (q / 10000) (nI ((q / 10) % 100))).1) < 0 then (0, (oR M ((h_X7_change (mR M) (q / 10000) (nI ((q / 10) % 100))).2))) else
        (1, (oR M ((h_X7_change (mR M) (q / 10000) (nI ((q / 10) % 100))).2)))) else
      (0, M)) else
    (0, M)) else
  if how = 6 then (if 2 ≤ (nI (q % 1000)) then (0, M) else
    if (nI (q % 1000)) = 1 then (if (f_X7_canHydrant (mR M) (nI (q / 1000)) 1) = 0 then (0, M) else
      if ((h_X7_hydrantOn (mR M) (q / 1000) 1).1) < 0 then (0, (oR M ((h_X7_hydrantOn (mR M) (q / 1000) 1).2))) else
      (1, (oR M ((h_X7_hydrantOn (mR M) (q / 1000) 1).2)))) else
    if (f_X7_canHydrant (mR M) (nI (q / 1000)) 0) = 0 then (0, M) else
    if ((h_X7_hydrantOn (mR M) (q / 1000) 0).1) < 0 then (0, (oR M ((h_X7_hydrantOn (mR M) (q / 1000) 0).2))) else
    (1, (oR M ((h_X7_hydrantOn (mR M) (q / 1000) 0).2)))) else
  if how = 7 then (if 10 ≤ (nI (q % 10000)) then (0, M) else
    if (f_X7_isLength (nI (q / 10000))) = 0 then (0, M) else
    if (f_X7_reason (mR M) (nI (q / 10000))) = (nI (q % 10)) then (1, M) else
    (0, M)) else
  if how = 8 then (if 10 ≤ (nI (q % 1000)) then (0, M) else
    if (f_X7_isCar (mR M) (nI (q / 1000))) = 0 then (0, M) else
    if (f_X7_of (mR M) (q / 1000) 2) = (nI (q % 10)) then (1, M) else
    (0, M)) else
  if how = 9 then (if 100 ≤ (nI (q % 10000)) then (0, M) else
    if (f_X7_isLength (nI (q / 10000))) = 0 then (0, M) else
    if (f_X7_fitsIn (mR M) (nI (q / 10000))) < (nI (q % 100)) then (0, M) else
    (1, M)) else
  (0, M)
-- 38.mod13.lean.txt
theorem RI_oR {M : Mo} {g : Rw} (h : RI g) : RI (mR (oR M g)) := h
theorem RI_oRN {M : Mo} {g : Rw} (h : RI (mN M)) : RI (mN (oR M g)) := h
theorem RI_cmv {g : Rw} {c x : Nat} (h : RI g) (hc : c < 2 ^ 31) (hi : ¬ f_X7_isCar g (nI c) = 0) (hx : x < 2 ^ 31) (hxc : ¬ f_X7_isCell (nI x) = 0) (hm : ¬ f_X7_canMove g c x = 0) : RI (h_X7_moveOn g c x).2 := by
  have q := mv_ok h (Nat.lt_of_lt_of_le (car_lt h hc hi) h.m.2) (cell_lt hx hxc) hm
  exact RI_moveOn h q.1 q.2.1 q.2.2
theorem RI_cst {g : Rw} {w : Nat} {v : Int32} (h : RI g) (hw : w < 2 ^ 31) (hs : ¬ f_X7_isSetting (nI w) v = 0) : RI (h_X7_change g w v).2 := RI_chg h (set_lt hw hs) v (fun z => set_room hs z)
theorem RI_gst {g : Rw} {c : Nat} {sta : Int32} (h : RI g) (hc : c < 2 ^ 31) (hp : ¬ f_X7_isParked g (nI c) = 0) (hs : sta ≠ 0) : RI (h_X7_goes g c sta).2 := RI_goes h (RI.P h hc hp).2.2.2 hs
theorem RI_hst {g : Rw} {x : Nat} {on on' : Int32} (h : RI g) (hx : x < 2 ^ 31) (hc : ¬ f_X7_canHydrant g (nI x) on = 0) : RI (h_X7_hydrantOn g x on').2 := RI_hyd h (hyd_lt hx hc) _

set_option maxHeartbeats 4000000 in
theorem RI_turn {g : Rw} (h : RI g) (how : Int32) {q : Nat} (hq : q < 2 ^ 28) : RI (h_X7_turnOf g how q) := by
  rw [h_X7_turnOf]
  by_cases q1 : 3 ≤ how
  · rw [if_pos q1]
    by_cases q2 : how = 3
    · rw [if_pos q2]
      by_cases q3 : (f_X7_isParked g (nI (q % 40))) = 0
      · rw [if_pos q3]
        exact h
      · rw [if_neg q3]
        exact RI_gst h (by omega) (by assumption) (by decide)
    · rw [if_neg q2]
      by_cases q4 : how = 4
      · rw [if_pos q4]
        by_cases q5 : (nI ((q / 128) % 3)) = 0
        · rw [if_pos q5]
          by_cases q6 : (f_X7_canHydrant g (nI (q % 80)) 0) = 0
          · rw [if_pos q6]
            exact h
          · rw [if_neg q6]
            exact RI_hyd h (by omega) _
        · rw [if_neg q5]
          by_cases q7 : (f_X7_canHydrant g (nI (q % 80)) 1) = 0
          · rw [if_pos q7]
            exact h
          · rw [if_neg q7]
            exact RI_hyd h (by omega) _
      · rw [if_neg q4]
        by_cases q8 : how ≤ 5
        · rw [if_pos q8]
          by_cases q9 : (nI ((q / 4) % 2)) = 0
          · rw [if_pos q9]
            exact RI_chg h (by omega) _ (fun z => absurd z (by decide))
          · rw [if_neg q9]
            exact RI_chg h (by omega) _ (fun _ => ⟨q / 8 % 5, by omega, rfl⟩)
        · rw [if_neg q8]
          exact RI_mins h _
  · rw [if_neg q1]
    by_cases q10 : 40 ≤ (g 0)
    · rw [if_pos q10]
      exact h
    · rw [if_neg q10]
      exact RI_come h (gm40 h (by assumption)) ⟨2 + q % 7, by omega, by omega, rfl⟩
set_option maxHeartbeats 4000000 in
theorem RI_command {M : Mo} (h : RI (mR M)) (how : Int32) {q : Nat} (hq : q < 100000) : RI (mR (h_X7_command M how q).2) := by
  rw [h_X7_command]
  by_cases q1 : how = 1
  · rw [if_pos q1]
    by_cases q2 : 2 ≤ (nI (q % 100))
    · rw [if_pos q2]
      exact h
    · rw [if_neg q2]
      by_cases q3 : (f_X7_isLength (nI (q / 10000))) = 0
      · rw [if_pos q3]
        exact h
      · rw [if_neg q3]
        by_cases q4 : (f_X7_in ((nI ((q / 100) % 100)).toInt64) 1 99) = 0
        · rw [if_pos q4]
          exact h
        · rw [if_neg q4]
          by_cases q5 : 40 ≤ ((mR M) 0)
          · rw [if_pos q5]
            exact h
          · rw [if_neg q5]
            by_cases q6 : (nI (q % 100)) = 1
            · rw [if_pos q6]
              by_cases q7 : (f_X7_isParked (mR (oR M ((h_X7_comeOn (mR M) (nI (q / 10000)) (nI ((q / 100) % 100))).2))) ((h_X7_comeOn (mR M) (nI (q / 10000)) (nI ((q / 100) % 100))).1)) = 1
              · rw [if_pos q7]
                exact RI_oR (RI_come h (gm40 h (by assumption)) (len_2e (by assumption)))
              · rw [if_neg q7]
                exact RI_oR (RI_come h (gm40 h (by assumption)) (len_2e (by assumption)))
            · rw [if_neg q6]
              by_cases q8 : (f_X7_isParked (mR (oR M ((h_X7_comeOn (mR M) (nI (q / 10000)) (nI ((q / 100) % 100))).2))) ((h_X7_comeOn (mR M) (nI (q / 10000)) (nI ((q / 100) % 100))).1)) = 0
              · rw [if_pos q8]
                exact RI_oR (RI_come h (gm40 h (by assumption)) (len_2e (by assumption)))
              · rw [if_neg q8]
                exact RI_oR (RI_come h (gm40 h (by assumption)) (len_2e (by assumption)))
  · rw [if_neg q1]
    by_cases q9 : how = 2
    · rw [if_pos q9]
      by_cases q10 : (nI (q % 1000)) = 0
      · rw [if_pos q10]
        by_cases q11 : (f_X7_isParked (mR M) (nI (q / 1000))) = 0
        · rw [if_pos q11]
          exact h
        · rw [if_neg q11]
          by_cases q12 : ((h_X7_goes (mR M) (q / 1000) 2).1) < 0
          · rw [if_pos q12]
            exact RI_oR (RI_gst h (by omega) (by assumption) (by decide))
          · rw [if_neg q12]
            exact RI_oR (RI_gst h (by omega) (by assumption) (by decide))
      · rw [if_neg q10]
        exact h
    · rw [if_neg q9]
      by_cases q13 : how = 3
      · rw [if_pos q13]
        by_cases q14 : (nI (q % 10)) = 0
        · rw [if_pos q14]
          by_cases q15 : (f_X7_isCar (mR M) (nI (q / 1000))) = 0
          · rw [if_pos q15]
            exact h
          · rw [if_neg q15]
            by_cases q16 : (f_X7_isCell (nI ((q / 10) % 100))) = 0
            · rw [if_pos q16]
              exact h
            · rw [if_neg q16]
              by_cases q17 : (f_X7_canMove (mR M) (q / 1000) ((q / 10) % 100)) = 0
              · rw [if_pos q17]
                exact h
              · rw [if_neg q17]
                by_cases q18 : ((h_X7_moveOn (mR M) (q / 1000) ((q / 10) % 100)).1) < 0
                · rw [if_pos q18]
                  exact RI_oR (RI_cmv h (by omega) (by assumption) (by omega) (by assumption) (by assumption))
                · rw [if_neg q18]
                  exact RI_oR (RI_cmv h (by omega) (by assumption) (by omega) (by assumption) (by assumption))
        · rw [if_neg q14]
          exact h
      · rw [if_neg q13]
        by_cases q19 : how = 4
        · rw [if_pos q19]
          by_cases q20 : (f_X7_in ((nI q).toInt64) 1 60) = 0
          · rw [if_pos q20]
            exact h
          · rw [if_neg q20]
            by_cases q21 : ((h_X7_minutesOn (mR M) (nI q)).1) < 0
            · rw [if_pos q21]
              exact RI_oR (RI_mins h _)
            · rw [if_neg q21]
              exact RI_oR (RI_mins h _)
        · rw [if_neg q19]
          by_cases q22 : how = 5
          · rw [if_pos q22]
            by_cases q23 : (nI ((q / 1000) % 10)) = 0
            · rw [if_pos q23]
              by_cases q24 : (nI (q % 10)) = 0
              · rw [if_pos q24]
                by_cases q25 : (f_X7_isSetting (nI (q / 10000)) (nI ((q / 10) % 100))) = 0
                · rw [if_pos q25]
                  exact h
                · rw [if_neg q25]
                  by_cases q26 : ((h_X7_change (mR M) (q / 10000) (nI ((q / 10) % 100))).1) < 0
                  · rw [if_pos q26]
                    exact RI_oR (RI_cst h (by omega) (by assumption))
                  · rw [if_neg q26]
                    exact RI_oR (RI_cst h (by omega) (by assumption))
              · rw [if_neg q24]
                exact h
            · rw [if_neg q23]
              exact h
          · rw [if_neg q22]
            by_cases q27 : how = 6
            · rw [if_pos q27]
              by_cases q28 : 2 ≤ (nI (q % 1000))
              · rw [if_pos q28]
                exact h
              · rw [if_neg q28]
                by_cases q29 : (nI (q % 1000)) = 1
                · rw [if_pos q29]
                  by_cases q30 : (f_X7_canHydrant (mR M) (nI (q / 1000)) 1) = 0
                  · rw [if_pos q30]
                    exact h
                  · rw [if_neg q30]
                    by_cases q31 : ((h_X7_hydrantOn (mR M) (q / 1000) 1).1) < 0
                    · rw [if_pos q31]
                      exact RI_oR (RI_hst (x := q / 1000) h (by omega) (by assumption))
                    · rw [if_neg q31]
                      exact RI_oR (RI_hst (x := q / 1000) h (by omega) (by assumption))
                · rw [if_neg q29]
                  by_cases q32 : (f_X7_canHydrant (mR M) (nI (q / 1000)) 0) = 0
                  · rw [if_pos q32]
                    exact h
                  · rw [if_neg q32]
                    by_cases q33 : ((h_X7_hydrantOn (mR M) (q / 1000) 0).1) < 0
                    · rw [if_pos q33]
                      exact RI_oR (RI_hst (x := q / 1000) h (by omega) (by assumption))
                    · rw [if_neg q33]
                      exact RI_oR (RI_hst (x := q / 1000) h (by omega) (by assumption))
            · rw [if_neg q27]
              by_cases q34 : how = 7
              · rw [if_pos q34]
                by_cases q35 : 10 ≤ (nI (q % 10000))
                · rw [if_pos q35]
                  exact h
                · rw [if_neg q35]
                  by_cases q36 : (f_X7_isLength (nI (q / 10000))) = 0
                  · rw [if_pos q36]
                    exact h
                  · rw [if_neg q36]
                    by_cases q37 : (f_X7_reason (mR M) (nI (q / 10000))) = (nI (q % 10))
                    · rw [if_pos q37]
                      exact h
                    · rw [if_neg q37]
                      exact h
              · rw [if_neg q34]
                by_cases q38 : how = 8
                · rw [if_pos q38]
                  by_cases q39 : 10 ≤ (nI (q % 1000))
                  · rw [if_pos q39]
                    exact h
                  · rw [if_neg q39]
                    by_cases q40 : (f_X7_isCar (mR M) (nI (q / 1000))) = 0
                    · rw [if_pos q40]
                      exact h
                    · rw [if_neg q40]
                      by_cases q41 : (f_X7_of (mR M) (q / 1000) 2) = (nI (q % 10))
                      · rw [if_pos q41]
                        exact h
                      · rw [if_neg q41]
                        exact h
                · rw [if_neg q38]
                  by_cases q42 : how = 9
                  · rw [if_pos q42]
                    by_cases q43 : 100 ≤ (nI (q % 10000))
                    · rw [if_pos q43]
                      exact h
                    · rw [if_neg q43]
                      by_cases q44 : (f_X7_isLength (nI (q / 10000))) = 0
                      · rw [if_pos q44]
                        exact h
                      · rw [if_neg q44]
                        by_cases q45 : (f_X7_fitsIn (mR M) (nI (q / 10000))) < (nI (q % 100))
                        · rw [if_pos q45]
                          exact h
                        · rw [if_neg q45]
                          exact h
                  · rw [if_neg q42]
                    exact h
set_option maxHeartbeats 4000000 in
theorem com_N (M : Mo) (how : Int32) (q : Nat) : mN (h_X7_command M how q).2 = mN M := by
  rw [h_X7_command]
  by_cases q1 : how = 1
  · rw [if_pos q1]
    by_cases q2 : 2 ≤ (nI (q % 100))
    · rw [if_pos q2]
      try rfl
    · rw [if_neg q2]
      by_cases q3 : (f_X7_isLength (nI (q / 10000))) = 0
      · rw [if_pos q3]
        try rfl
      · rw [if_neg q3]
        by_cases q4 : (f_X7_in ((nI ((q / 100) % 100)).toInt64) 1 99) = 0
        · rw [if_pos q4]
          try rfl
        · rw [if_neg q4]
          by_cases q5 : 40 ≤ ((mR M) 0)
          · rw [if_pos q5]
            try rfl
          · rw [if_neg q5]
            by_cases q6 : (nI (q % 100)) = 1
            · rw [if_pos q6]
              by_cases q7 : (f_X7_isParked (mR (oR M ((h_X7_comeOn (mR M) (nI (q / 10000)) (nI ((q / 100) % 100))).2))) ((h_X7_comeOn (mR M) (nI (q / 10000)) (nI ((q / 100) % 100))).1)) = 1
              · rw [if_pos q7]
                try rfl
              · rw [if_neg q7]
                try rfl
            · rw [if_neg q6]
              by_cases q8 : (f_X7_isParked (mR (oR M ((h_X7_comeOn (mR M) (nI (q / 10000)) (nI ((q / 100) % 100))).2))) ((h_X7_comeOn (mR M) (nI (q / 10000)) (nI ((q / 100) % 100))).1)) = 0
              · rw [if_pos q8]
                try rfl
              · rw [if_neg q8]
                try rfl
  · rw [if_neg q1]
    by_cases q9 : how = 2
    · rw [if_pos q9]
      by_cases q10 : (nI (q % 1000)) = 0
      · rw [if_pos q10]
        by_cases q11 : (f_X7_isParked (mR M) (nI (q / 1000))) = 0
        · rw [if_pos q11]
          try rfl
        · rw [if_neg q11]
          by_cases q12 : ((h_X7_goes (mR M) (q / 1000) 2).1) < 0
          · rw [if_pos q12]
            try rfl
          · rw [if_neg q12]
            try rfl
      · rw [if_neg q10]
        try rfl
    · rw [if_neg q9]
      by_cases q13 : how = 3
      · rw [if_pos q13]
        by_cases q14 : (nI (q % 10)) = 0
        · rw [if_pos q14]
          by_cases q15 : (f_X7_isCar (mR M) (nI (q / 1000))) = 0
          · rw [if_pos q15]
            try rfl
          · rw [if_neg q15]
            by_cases q16 : (f_X7_isCell (nI ((q / 10) % 100))) = 0
            · rw [if_pos q16]
              try rfl
            · rw [if_neg q16]
              by_cases q17 : (f_X7_canMove (mR M) (q / 1000) ((q / 10) % 100)) = 0
              · rw [if_pos q17]
                try rfl
              · rw [if_neg q17]
                by_cases q18 : ((h_X7_moveOn (mR M) (q / 1000) ((q / 10) % 100)).1) < 0
                · rw [if_pos q18]
                  try rfl
                · rw [if_neg q18]
                  try rfl
        · rw [if_neg q14]
          try rfl
      · rw [if_neg q13]
        by_cases q19 : how = 4
        · rw [if_pos q19]
          by_cases q20 : (f_X7_in ((nI q).toInt64) 1 60) = 0
          · rw [if_pos q20]
            try rfl
          · rw [if_neg q20]
            by_cases q21 : ((h_X7_minutesOn (mR M) (nI q)).1) < 0
            · rw [if_pos q21]
              try rfl
            · rw [if_neg q21]
              try rfl
        · rw [if_neg q19]
          by_cases q22 : how = 5
          · rw [if_pos q22]
            by_cases q23 : (nI ((q / 1000) % 10)) = 0
            · rw [if_pos q23]
              by_cases q24 : (nI (q % 10)) = 0
              · rw [if_pos q24]
                by_cases q25 : (f_X7_isSetting (nI (q / 10000)) (nI ((q / 10) % 100))) = 0
                · rw [if_pos q25]
                  try rfl
                · rw [if_neg q25]
                  by_cases q26 : ((h_X7_change (mR M) (q / 10000) (nI ((q / 10) % 100))).1) < 0
                  · rw [if_pos q26]
                    try rfl
                  · rw [if_neg q26]
                    try rfl
              · rw [if_neg q24]
                try rfl
            · rw [if_neg q23]
              try rfl
          · rw [if_neg q22]
            by_cases q27 : how = 6
            · rw [if_pos q27]
              by_cases q28 : 2 ≤ (nI (q % 1000))
              · rw [if_pos q28]
                try rfl
              · rw [if_neg q28]
                by_cases q29 : (nI (q % 1000)) = 1
                · rw [if_pos q29]
                  by_cases q30 : (f_X7_canHydrant (mR M) (nI (q / 1000)) 1) = 0
                  · rw [if_pos q30]
                    try rfl
                  · rw [if_neg q30]
                    by_cases q31 : ((h_X7_hydrantOn (mR M) (q / 1000) 1).1) < 0
                    · rw [if_pos q31]
                      try rfl
                    · rw [if_neg q31]
                      try rfl
                · rw [if_neg q29]
                  by_cases q32 : (f_X7_canHydrant (mR M) (nI (q / 1000)) 0) = 0
                  · rw [if_pos q32]
                    try rfl
                  · rw [if_neg q32]
                    by_cases q33 : ((h_X7_hydrantOn (mR M) (q / 1000) 0).1) < 0
                    · rw [if_pos q33]
                      try rfl
                    · rw [if_neg q33]
                      try rfl
            · rw [if_neg q27]
              by_cases q34 : how = 7
              · rw [if_pos q34]
                by_cases q35 : 10 ≤ (nI (q % 10000))
                · rw [if_pos q35]
                  try rfl
                · rw [if_neg q35]
                  by_cases q36 : (f_X7_isLength (nI (q / 10000))) = 0
                  · rw [if_pos q36]
                    try rfl
                  · rw [if_neg q36]
                    by_cases q37 : (f_X7_reason (mR M) (nI (q / 10000))) = (nI (q % 10))
                    · rw [if_pos q37]
                      try rfl
                    · rw [if_neg q37]
                      try rfl
              · rw [if_neg q34]
                by_cases q38 : how = 8
                · rw [if_pos q38]
                  by_cases q39 : 10 ≤ (nI (q % 1000))
                  · rw [if_pos q39]
                    try rfl
                  · rw [if_neg q39]
                    by_cases q40 : (f_X7_isCar (mR M) (nI (q / 1000))) = 0
                    · rw [if_pos q40]
                      try rfl
                    · rw [if_neg q40]
                      by_cases q41 : (f_X7_of (mR M) (q / 1000) 2) = (nI (q % 10))
                      · rw [if_pos q41]
                        try rfl
                      · rw [if_neg q41]
                        try rfl
                · rw [if_neg q38]
                  by_cases q42 : how = 9
                  · rw [if_pos q42]
                    by_cases q43 : 100 ≤ (nI (q % 10000))
                    · rw [if_pos q43]
                      try rfl
                    · rw [if_neg q43]
                      by_cases q44 : (f_X7_isLength (nI (q / 10000))) = 0
                      · rw [if_pos q44]
                        try rfl
                      · rw [if_neg q44]
                        by_cases q45 : (f_X7_fitsIn (mR M) (nI (q / 10000))) < (nI (q % 100))
                        · rw [if_pos q45]
                          try rfl
                        · rw [if_neg q45]
                          try rfl
                  · rw [if_neg q42]
                    try rfl
theorem sc_pow {d : Nat} (h : d ≤ 3) : 1000000 ^ d < 2 ^ 63 ∧ 0 < 1000000 ^ d := by
  match d, h with
  | 0, _ => decide
  | 1, _ => decide
  | 2, _ => decide
  | 3, _ => decide
theorem sc_div {al : Int64} {U k : Nat} (h : al = lN (1000000 ^ (U - k))) (hk : k < U) (hU : U ≤ 3) : al / 1000000 = lN (1000000 ^ (U - (k + 1))) := by
  have e : U - k = (U - (k + 1)) + 1 := by omega
  have q := sc_pow (d := U - k) (by omega)
  rw [h, show (1000000 : Int64) = lN 1000000 from rfl, pk_lDiv q.1 (by omega) (by omega), e, Nat.pow_succ, Nat.mul_div_cancel _ (by omega)]
theorem sc_ne {al : Int64} {U k : Nat} (h : al = lN (1000000 ^ (U - k))) (hk : k < U) (hU : U ≤ 3) : ¬ al / 1000000 = 0 := by
  rw [sc_div h hk hU]
  have q := sc_pow (d := U - (k + 1)) (by omega)
  rw [show (0 : Int64) = lN 0 from rfl, pk_lEQ q.1 (by omega)]
  omega
theorem sc_grp {sc al : Int64} {U k : Nat} (hs : ∃ t, t < 2 ^ 63 ∧ sc = lN t) (h : al = lN (1000000 ^ (U - k))) (hk : k < U) (hU : U ≤ 3) : ∃ u, u < 1000000 ∧ (sc / (al / 1000000) - sc / (al / 1000000) / 1000000 * 1000000).toInt32 = nI u := by
  obtain ⟨t, ht, rfl⟩ := hs
  have q := sc_pow (d := U - (k + 1)) (by omega)
  rw [sc_div h hk hU, pk_lDiv ht q.2 q.1, show (1000000 : Int64) = lN 1000000 from rfl, pk_lRem (Nat.lt_of_le_of_lt (Nat.div_le_self ..) ht) (by omega) (by omega), lN_i]
  exact ⟨_, Nat.mod_lt _ (by omega), rfl⟩
theorem cl_self {x : Int32} (h : ∃ u, u < 2 ^ 31 ∧ x = nI u) : x = nI x.toNatClampNeg := by
  obtain ⟨u, hu, rfl⟩ := h
  rw [nI_clamp hu]
theorem sc_self {sc al : Int64} {U k : Nat} (hs : ∃ t, t < 2 ^ 63 ∧ sc = lN t) (h : al = lN (1000000 ^ (U - k))) (hk : k < U) (hU : U ≤ 3) : (sc / (al / 1000000) - sc / (al / 1000000) / 1000000 * 1000000).toInt32 = nI (sc / (al / 1000000) - sc / (al / 1000000) / 1000000 * 1000000).toInt32.toNatClampNeg := by
  obtain ⟨u, hu, e⟩ := sc_grp hs h hk hU
  exact cl_self ⟨u, by omega, e⟩
theorem sc_pos {sc al : Int64} (h : ¬ f_X7_in sc 0 (al - 1) = 0) : ∃ t, t < 2 ^ 63 ∧ sc = lN t := by
  have h1 := (in_ne h).1
  refine pk_lOf ?_
  rw [Int64.lt_iff_toInt_lt]
  omega
/-- the number of commands, from the loop that counts its digits -/
theorem sc_n {w : Int32} {k : Nat} (hi : ¬ f_X7_in w.toInt64 1 3 = 0) (hk : k ≤ 3) (hp : k = 0 ∨ ¬ w ≤ nI (k - 1)) (hx : w ≤ nI k ∨ (3 : Int32) ≤ nI k) : 1 ≤ k ∧ w = nI k := by
  have h1 := in_ne hi
  rw [i64, show (1 : Int64).toInt = 1 by decide, show (3 : Int64).toInt = 3 by decide] at h1
  obtain ⟨j, hj, rfl⟩ := nI_of (x := w) (by rw [Int32.lt_iff_toInt_lt, Int32.toInt_zero]; omega)
  rw [nI_toInt hj] at h1
  have e : j = k := by
    have a1 : j ≤ k := by
      rcases hx with z | z
      · exact (nI_leI hj (by omega)).mp z
      · have := (nI_leI (a := 3) (by omega) (by omega)).mp z
        omega
    rcases hp with z | z
    · omega
    · rw [nI_leI hj (by omega)] at z
      omega
  subst e
  exact ⟨by omega, rfl⟩
theorem RI_cpR {M : Mo} (h : RI (mN M)) : RI (mR (oR (h_X7_refused M 0).2 (h_X7_copyState (mN (h_X7_refused M 0).2) (mR (h_X7_refused M 0).2) 0 0))) := by
  rw [mR_oR, ref_N]
  exact RI_cp h

def lp_rScript (w : Int32) (sc : Int64) : Nat → Int64 → Nat → Mo → Int32 × Mo
  | 0, _, _, M2 => (-1, M2)
  | n + 1, al, k, M2 => if w ≤ (nI k) then ((-1), M2) else
    if ((h_X7_command M2 (nI (((((sc / (al / 1000000)) - (sc / (al / 1000000)) / 1000000 * 1000000).toInt32).toNatClampNeg) / 100000)) (((((sc / (al / 1000000)) - (sc / (al / 1000000)) / 1000000 * 1000000).toInt32).toNatClampNeg) % 100000)).1) = 0 then (nI k, (h_X7_command M2 (nI (((((sc / (al / 1000000)) - (sc / (al / 1000000)) / 1000000 * 1000000).toInt32).toNatClampNeg) / 100000)) (((((sc / (al / 1000000)) - (sc / (al / 1000000)) / 1000000 * 1000000).toInt32).toNatClampNeg) % 100000)).2) else
    lp_rScript w sc n (al / 1000000) (k + 1) ((h_X7_command M2 (nI (((((sc / (al / 1000000)) - (sc / (al / 1000000)) / 1000000 * 1000000).toInt32).toNatClampNeg) / 100000)) (((((sc / (al / 1000000)) - (sc / (al / 1000000)) / 1000000 * 1000000).toInt32).toNatClampNeg) % 100000)).2)
def lp_rUnit (M : Mo) (w : Int32) (sc : Int64) : Nat → Int64 → Nat → Int32 × Mo
  | 0, _, _ => (0, M)
  | n + 1, al, k => if w ≤ (nI k) then (if (f_X7_in w.toInt64 1 3) = 0 then (0, (h_X7_refused M 1).2) else
      if (f_X7_in sc 0 (al - 1)) = 0 then (0, (h_X7_refused M 1).2) else
      lp_rScript w sc 4 al 0 (oR ((h_X7_refused M 0).2) (h_X7_copyState (mN ((h_X7_refused M 0).2)) (mR ((h_X7_refused M 0).2)) 0 0))) else
    if 3 ≤ (nI k) then (if (f_X7_in w.toInt64 1 3) = 0 then (0, (h_X7_refused M 1).2) else
      if (f_X7_in sc 0 (al - 1)) = 0 then (0, (h_X7_refused M 1).2) else
      lp_rScript w sc 4 al 0 (oR ((h_X7_refused M 0).2) (h_X7_copyState (mN ((h_X7_refused M 0).2)) (mR ((h_X7_refused M 0).2)) 0 0))) else
    lp_rUnit M w sc n (al * 1000000) (k + 1)
def h_X7_runScript (M : Mo) (w : Int32) (sc : Int64) : Int32 × Mo :=
  lp_rUnit M w sc 4 1 0
def lp_rSim (w : Int32) : Nat → Nat → Int64 → Mo → Int32 × Mo
  | 0, _, _, M2 => (0, M2)
  | n + 1, k, x, M2 => if w ≤ (nI k) then (((10000 * (f_X7_many (mR M2) 0)) + (100 * ((f_X7_many (mR M2) 3) - (f_X7_many (mN M2) 3)))) + (f_X7_cellsWith (mR M2) (-1)), M2) else
    lp_rSim w n (k + 1) ((x * 6364136223846793005) + 1442695040888963407) (oR M2 (h_X7_turnOf (mR M2) (nI ((((jUshr ((x * 6364136223846793005) + 1442695040888963407) 33).toInt32).toNatClampNeg) % 8)) ((((jUshr ((x * 6364136223846793005) + 1442695040888963407) 33).toInt32).toNatClampNeg) / 8)))
def h_X7_simulate (M : Mo) (sd : Int64) (w : Int32) : Int32 × Mo :=
  if (f_X7_in w.toInt64 1 60) = 0 then (0, (h_X7_refused M 1).2) else
  lp_rSim w (w.toNatClampNeg + 1) 0 sd (oR ((h_X7_refused M 0).2) (h_X7_copyState (mN ((h_X7_refused M 0).2)) (mR ((h_X7_refused M 0).2)) 0 0))
-- 39.mod14.lean.txt
def sp (M : Mo) : Nat := (mS M).toNatClampNeg
/-- the text and the place in it -/
def TI (M : Mo) : Prop := mZ M = nI (zz M) ∧ zz M ≤ 120 ∧ mS M = nI (sp M) ∧ sp M ≤ zz M
theorem TI.lt {M : Mo} (h : TI M) (hn : ¬ mZ M ≤ mS M) : sp M < zz M := by
  obtain ⟨h1, h2, h3, h4⟩ := h
  rw [h1, h3] at hn
  exact kN hn (by omega) (by omega)
theorem TI.ne {M : Mo} (h : TI M) (hn : ¬ mS M = mZ M) : sp M < zz M := by
  obtain ⟨h1, h2, h3, h4⟩ := h
  rcases Nat.lt_or_ge (sp M) (zz M) with q | q
  · exact q
  · exact absurd (by rw [h1, h3, show sp M = zz M by omega]) hn
theorem TI.rd {M : Mo} (h : TI M) (hl : sp M < zz M) : vp_in (mS M) 120 := by
  obtain ⟨h1, h2, h3, h4⟩ := h
  rw [h3]
  exact vp_in_nI (by omega) (by omega)
theorem TI.up {M : Mo} (h : TI M) (hl : sp M < zz M) : TI (oS M (mS M + 1)) ∧ sp (oS M (mS M + 1)) = sp M + 1 ∧ zz (oS M (mS M + 1)) = zz M := by
  obtain ⟨h1, h2, h3, h4⟩ := h
  have e : sp (oS M (mS M + 1)) = sp M + 1 := by rw [sp, mS_oS, h3, nI_1, nI_clamp (by omega)]
  have ez : zz (oS M (mS M + 1)) = zz M := by rw [zz, mZ_oS, zz]
  refine ⟨⟨by rw [mZ_oS, ez]; exact h1, by rw [ez]; exact h2, by rw [mS_oS, e, h3, nI_1], by omega⟩, e, ez⟩
theorem in_m1 : f_X7_in ((-1 : Int32).toInt64) 0 9 = 0 := by decide +kernel
theorem TI_same {M M' : Mo} (h : TI M) (hz : mZ M' = mZ M) (hs : mS M' = mS M) : TI M' ∧ sp M' = sp M ∧ zz M' = zz M := by
  obtain ⟨h1, h2, h3, h4⟩ := h
  have e : sp M' = sp M := by rw [sp, hs, sp]
  have ez : zz M' = zz M := by rw [zz, hz, zz]
  exact ⟨⟨by rw [hz, ez]; exact h1, by omega, by rw [hs, e]; exact h3, by omega⟩, e, ez⟩

def lp_rFig (ah lo hi : Int32) : Nat → Int32 → Nat → Mo → Int32 × Mo
  | 0, _, _, M2 => (0, M2)
  | n + 1, v, u, M2 => if (nI u) ≤ 0 then (if ah = (-1) then ((-1), M2) else
      (v, M2)) else
    if ah = (-1) then ((-1), M2) else
    if (mZ M2) ≤ (mS M2) then ((-1), M2) else
    if (f_X7_in ((((mT M2) (mS M2).toNatClampNeg) - 48).toInt64) 0 9) = 0 then ((-1), M2) else
    if hi < (v + ((((mT M2) (mS M2).toNatClampNeg) - 48) * (nI u))) then ((-1), M2) else
    if lo ≤ (((v + ((((mT M2) (mS M2).toNatClampNeg) - 48) * (nI u))) + (nI u)) - 1) then lp_rFig ah lo hi n (v + ((((mT M2) (mS M2).toNatClampNeg) - 48) * (nI u))) (u / 10) (oS M2 ((mS M2) + 1)) else
    ((-1), M2)
def h_X7_figures (M : Mo) (ah : Int32) (di : Int32) (lo : Int32) (hi : Int32) : Int32 × Mo :=
  if di = 2 then lp_rFig ah lo hi 11 0 10 M else
  lp_rFig ah lo hi 11 0 1 M
theorem done_1 (M : Mo) (is : Int32) : ¬ (h_X7_done M is).1 = 0 := by
  rw [h_X7_done]
  repeat' split
  all_goals exact (by decide : ¬ (1 : Int32) = 0)
theorem figS (ah lo hi : Int32) : ∀ (n : Nat) (v : Int32) (u : Nat) (M2 : Mo), (lp_rFig ah lo hi n v u M2).2 = oS M2 (mS (lp_rFig ah lo hi n v u M2).2) := by
  intro n
  induction n with
  | zero => intro v u M2; rfl
  | succ n ih =>
    intro v u M2
    rw [lp_rFig]
    repeat' split
    all_goals first | rfl | exact ih ..
theorem fig_S (M : Mo) (ah di lo hi : Int32) : (h_X7_figures M ah di lo hi).2 = oS M (mS (h_X7_figures M ah di lo hi).2) := by
  rw [h_X7_figures]
  split
  · exact figS ..
  · exact figS ..
theorem fig_R (M : Mo) (ah di lo hi : Int32) : mR (h_X7_figures M ah di lo hi).2 = mR M := by rw [fig_S, mR_oS]
/-- the text is the same, the place not below -/
def Adv (M M' : Mo) : Prop := TI M' ∧ sp M ≤ sp M' ∧ zz M' = zz M
theorem Adv.o {M M' M'' : Mo} (h : Adv M M') (hz : mZ M'' = mZ M') (hs : mS M'' = mS M') : Adv M M'' := by
  have q := TI_same h.1 hz hs
  exact ⟨q.1, by rw [q.2.1]; exact h.2.1, by rw [q.2.2]; exact h.2.2⟩
theorem figA (ah lo hi : Int32) (M : Mo) : ∀ (n : Nat) (v : Int32) (u : Nat) (M2 : Mo), Adv M M2 → Adv M (lp_rFig ah lo hi n v u M2).2 := by
  intro n
  induction n with
  | zero => intro v u M2 h; exact h
  | succ n ih =>
    intro v u M2 h
    rw [lp_rFig]
    by_cases c1 : nI u ≤ 0
    · rw [if_pos c1]
      split <;> exact h
    · rw [if_neg c1]
      by_cases c2 : ah = -1
      · rw [if_pos c2]
        exact h
      · rw [if_neg c2]
        by_cases c3 : mZ M2 ≤ mS M2
        · rw [if_pos c3]
          exact h
        · rw [if_neg c3]
          have q := h.1.up (h.1.lt c3)
          have h' : Adv M (oS M2 (mS M2 + 1)) := ⟨q.1, by have := h.2.1; omega, by rw [q.2.2]; exact h.2.2⟩
          repeat' split
          all_goals first | exact h | exact ih _ _ _ h'
theorem fig_Adv {M M' : Mo} {ah di lo hi : Int32} (h : Adv M M') : Adv M (h_X7_figures M' ah di lo hi).2 := by
  rw [h_X7_figures]
  split
  · exact figA _ _ _ _ _ _ _ _ h
  · exact figA _ _ _ _ _ _ _ _ h
theorem TI.A {M : Mo} (h : TI M) : Adv M M := ⟨h, Nat.le_refl _, rfl⟩
theorem fig_TI {M : Mo} {ah di lo hi : Int32} (h : TI M) : TI (h_X7_figures M ah di lo hi).2 := (fig_Adv h.A).1
theorem fig1 (ah lo hi v : Int32) (n : Nat) (M2 : Mo) : (lp_rFig ah lo hi (n + 2) v 1 M2).1 = -1 ∨ (¬ ah = -1 ∧ lo ≤ (lp_rFig ah lo hi (n + 2) v 1 M2).1 ∧ (lp_rFig ah lo hi (n + 2) v 1 M2).1 ≤ hi) := by
  rw [lp_rFig, if_neg (by decide)]
  by_cases c2 : ah = -1
  · rw [if_pos c2]
    exact Or.inl rfl
  · rw [if_neg c2]
    by_cases c3 : mZ M2 ≤ mS M2
    · rw [if_pos c3]
      exact Or.inl rfl
    · rw [if_neg c3]
      by_cases c4 : f_X7_in ((mT M2 (mS M2).toNatClampNeg - 48).toInt64) 0 9 = 0
      · rw [if_pos c4]
        exact Or.inl rfl
      · rw [if_neg c4]
        by_cases c5 : hi < v + (mT M2 (mS M2).toNatClampNeg - 48) * nI 1
        · rw [if_pos c5]
          exact Or.inl rfl
        · rw [if_neg c5]
          by_cases c6 : lo ≤ v + (mT M2 (mS M2).toNatClampNeg - 48) * nI 1 + nI 1 - 1
          · rw [if_pos c6, lp_rFig, if_pos (by decide), if_neg c2]
            rw [show nI 1 = 1 from rfl, Int32.add_sub_cancel] at c6
            exact Or.inr ⟨c2, c6, Int32.not_lt.mp c5⟩
          · rw [if_neg c6]
            exact Or.inl rfl
theorem fig10 (ah lo hi v : Int32) (n : Nat) (M2 : Mo) : (lp_rFig ah lo hi (n + 3) v 10 M2).1 = -1 ∨ (¬ ah = -1 ∧ lo ≤ (lp_rFig ah lo hi (n + 3) v 10 M2).1 ∧ (lp_rFig ah lo hi (n + 3) v 10 M2).1 ≤ hi) := by
  rw [lp_rFig, if_neg (by decide), show 10 / 10 = 1 from rfl]
  have q := fig1 ah lo hi (v + (mT M2 (mS M2).toNatClampNeg - 48) * nI 10) n (oS M2 (mS M2 + 1))
  by_cases c2 : ah = -1
  · rw [if_pos c2]
    exact Or.inl rfl
  · rw [if_neg c2]
    repeat' split
    all_goals first | exact Or.inl rfl | exact q
theorem fig_in (M : Mo) (ah di lo hi : Int32) : (h_X7_figures M ah di lo hi).1 = -1 ∨ (¬ ah = -1 ∧ lo ≤ (h_X7_figures M ah di lo hi).1 ∧ (h_X7_figures M ah di lo hi).1 ≤ hi) := by
  rw [h_X7_figures]
  split
  · exact fig10 ..
  · exact fig1 ..
theorem rng_n {x lo hi : Int32} {b : Nat} (hl : 0 ≤ lo.toInt) (hh : hi.toInt = b) (h1 : lo ≤ x) (h2 : x ≤ hi) : ∃ j, j ≤ b ∧ x = nI j := by
  rw [Int32.le_iff_toInt_le] at h1 h2
  obtain ⟨j, hj, rfl⟩ := nI_of (x := x) (by rw [Int32.lt_iff_toInt_lt, Int32.toInt_zero]; omega)
  rw [nI_toInt hj] at h2
  exact ⟨j, by omega, rfl⟩
theorem fig_n {M : Mo} {ah di lo hi : Int32} {b : Nat} (hl : 0 ≤ lo.toInt) (hh : hi.toInt = b) (h : ¬ (h_X7_figures M ah di lo hi).1 = -1) : ¬ ah = -1 ∧ ∃ j, j ≤ b ∧ (h_X7_figures M ah di lo hi).1 = nI j := by
  have q := (fig_in M ah di lo hi).resolve_left h
  exact ⟨q.1, rng_n hl hh q.2.1 q.2.2⟩

def h_X7_carSign (M : Mo) : Int32 × Mo :=
  ((h_X7_figures M 0 2 0 39).1, (h_X7_figures M 0 2 0 39).2)
def h_X7_cellSign (M : Mo) (ah : Int32) : Int32 × Mo :=
  ((h_X7_figures M ah 2 0 79).1, (h_X7_figures M ah 2 0 79).2)
theorem car_TI {M : Mo} (h : TI M) : TI (h_X7_carSign M).2 := by
  rw [h_X7_carSign]
  exact fig_TI h
theorem cel_TI {M : Mo} {ah : Int32} (h : TI M) : TI (h_X7_cellSign M ah).2 := by
  rw [h_X7_cellSign]
  exact fig_TI h
theorem car_Adv {M M' : Mo} (h : Adv M M') : Adv M (h_X7_carSign M').2 := by
  rw [h_X7_carSign]
  exact fig_Adv h
theorem cel_Adv {M M' : Mo} {ah : Int32} (h : Adv M M') : Adv M (h_X7_cellSign M' ah).2 := by
  rw [h_X7_cellSign]
  exact fig_Adv h
theorem car_R (M : Mo) : mR (h_X7_carSign M).2 = mR M := by
  rw [h_X7_carSign]
  exact fig_R ..
theorem cel_R (M : Mo) (ah : Int32) : mR (h_X7_cellSign M ah).2 = mR M := by
  rw [h_X7_cellSign]
  exact fig_R ..
theorem cel_n {M : Mo} {ah : Int32} (h : ¬ (h_X7_cellSign M ah).1 = -1) : ∃ j, j < 80 ∧ (h_X7_cellSign M ah).1 = nI j := by
  rw [h_X7_cellSign] at h ⊢
  obtain ⟨-, j, hj, e⟩ := fig_n (b := 79) (by decide) (by decide) h
  exact ⟨j, by omega, e⟩
theorem fig_len {M M' : Mo} (h : ¬ (h_X7_figures M' (h_X7_figures M 0 1 2 8).1 2 1 99).1 = -1) : ∃ j, 2 ≤ j ∧ j ≤ 8 ∧ (h_X7_figures M 0 1 2 8).1 = nI j := by
  have q := (fig_n (b := 99) (by decide) (by decide) h).1
  have q1 := (fig_in M 0 1 2 8).resolve_left q
  obtain ⟨j, hj, e⟩ := rng_n (b := 8) (by decide) (by decide) q1.2.1 q1.2.2
  have q2 := q1.2.1
  rw [e, Int32.le_iff_toInt_le, nI_toInt (by omega), show (2 : Int32).toInt = 2 by decide] at q2
  exact ⟨j, by omega, hj, e⟩
theorem fig_len8 {M M' : Mo} (h : ¬ (h_X7_figures M' (h_X7_figures M 0 1 2 8).1 2 1 99).1 = -1) : ∃ j, j ≤ 8 ∧ (h_X7_figures M 0 1 2 8).1 = nI j := by
  obtain ⟨j, -, a, b⟩ := fig_len h
  exact ⟨j, a, b⟩
theorem car_40x {g : Rw} {c : Int32} (h : ¬ f_X7_isCar g c = 0) (hR : RI g) : ∃ j, j < 40 ∧ c = nI j := car_40 hR.1 h

-- 40a.mod15.lean.txt
def h_X7_readHydrant (M : Mo) : Int32 × Mo :=
  if ((h_X7_cellSign M 0).1) = (-1) then (0, (h_X7_cellSign M 0).2) else
  if (mS ((h_X7_cellSign M 0).2)) = (mZ ((h_X7_cellSign M 0).2)) then (0, (h_X7_cellSign M 0).2) else
  if ((mT ((h_X7_cellSign M 0).2)) (mS ((h_X7_cellSign M 0).2)).toNatClampNeg) = 43 then (if (f_X7_canHydrant (mR (oS ((h_X7_cellSign M 0).2) ((mS ((h_X7_cellSign M 0).2)) + 1))) ((h_X7_cellSign M 0).1) 1) = 0 then ((h_X7_done (oS ((h_X7_cellSign M 0).2) ((mS ((h_X7_cellSign M 0).2)) + 1)) 0).1, (h_X7_done (oS ((h_X7_cellSign M 0).2) ((mS ((h_X7_cellSign M 0).2)) + 1)) 0).2) else
    if ((h_X7_hydrantOn (mR (oS ((h_X7_cellSign M 0).2) ((mS ((h_X7_cellSign M 0).2)) + 1))) (((h_X7_cellSign M 0).1).toNatClampNeg) 1).1) < 0 then ((h_X7_done (oR (oS ((h_X7_cellSign M 0).2) ((mS ((h_X7_cellSign M 0).2)) + 1)) ((h_X7_hydrantOn (mR (oS ((h_X7_cellSign M 0).2) ((mS ((h_X7_cellSign M 0).2)) + 1))) (((h_X7_cellSign M 0).1).toNatClampNeg) 1).2)) 0).1, (h_X7_done (oR (oS ((h_X7_cellSign M 0).2) ((mS ((h_X7_cellSign M 0).2)) + 1)) ((h_X7_hydrantOn (mR (oS ((h_X7_cellSign M 0).2) ((mS ((h_X7_cellSign M 0).2)) + 1))) (((h_X7_cellSign M 0).1).toNatClampNeg) 1).2)) 0).2) else
    ((h_X7_done (oR (oS ((h_X7_cellSign M 0).2) ((mS ((h_X7_cellSign M 0).2)) + 1)) ((h_X7_hydrantOn (mR (oS ((h_X7_cellSign M 0).2) ((mS ((h_X7_cellSign M 0).2)) + 1))) (((h_X7_cellSign M 0).1).toNatClampNeg) 1).2)) 1).1, (h_X7_done (oR (oS ((h_X7_cellSign M 0).2) ((mS ((h_X7_cellSign M 0).2)) + 1)) ((h_X7_hydrantOn (mR (oS ((h_X7_cellSign M 0).2) ((mS ((h_X7_cellSign M 0).2)) + 1))) (((h_X7_cellSign M 0).1).toNatClampNeg) 1).2)) 1).2)) else
  if ((mT ((h_X7_cellSign M 0).2)) (mS ((h_X7_cellSign M 0).2)).toNatClampNeg) = 45 then (if (f_X7_canHydrant (mR (oS ((h_X7_cellSign M 0).2) ((mS ((h_X7_cellSign M 0).2)) + 1))) ((h_X7_cellSign M 0).1) 0) = 0 then ((h_X7_done (oS ((h_X7_cellSign M 0).2) ((mS ((h_X7_cellSign M 0).2)) + 1)) 0).1, (h_X7_done (oS ((h_X7_cellSign M 0).2) ((mS ((h_X7_cellSign M 0).2)) + 1)) 0).2) else
    if ((h_X7_hydrantOn (mR (oS ((h_X7_cellSign M 0).2) ((mS ((h_X7_cellSign M 0).2)) + 1))) (((h_X7_cellSign M 0).1).toNatClampNeg) 0).1) < 0 then ((h_X7_done (oR (oS ((h_X7_cellSign M 0).2) ((mS ((h_X7_cellSign M 0).2)) + 1)) ((h_X7_hydrantOn (mR (oS ((h_X7_cellSign M 0).2) ((mS ((h_X7_cellSign M 0).2)) + 1))) (((h_X7_cellSign M 0).1).toNatClampNeg) 0).2)) 0).1, (h_X7_done (oR (oS ((h_X7_cellSign M 0).2) ((mS ((h_X7_cellSign M 0).2)) + 1)) ((h_X7_hydrantOn (mR (oS ((h_X7_cellSign M 0).2) ((mS ((h_X7_cellSign M 0).2)) + 1))) (((h_X7_cellSign M 0).1).toNatClampNeg) 0).2)) 0).2) else
    ((h_X7_done (oR (oS ((h_X7_cellSign M 0).2) ((mS ((h_X7_cellSign M 0).2)) + 1)) ((h_X7_hydrantOn (mR (oS ((h_X7_cellSign M 0).2) ((mS ((h_X7_cellSign M 0).2)) + 1))) (((h_X7_cellSign M 0).1).toNatClampNeg) 0).2)) 1).1, (h_X7_done (oR (oS ((h_X7_cellSign M 0).2) ((mS ((h_X7_cellSign M 0).2)) + 1)) ((h_X7_hydrantOn (mR (oS ((h_X7_cellSign M 0).2) ((mS ((h_X7_cellSign M 0).2)) + 1))) (((h_X7_cellSign M 0).1).toNatClampNeg) 0).2)) 1).2)) else
  (0, (h_X7_cellSign M 0).2)
theorem b_h_X7_readHydrant (M : Mo) : (h_X7_readHydrant M).1 = 0 ∨ (h_X7_readHydrant M).1 = 1 := by
  unfold h_X7_readHydrant
  repeat' split
  all_goals first | exact Or.inl rfl | exact Or.inr rfl

theorem done_R (M : Mo) (is : Int32) : mR (h_X7_done M is).2 = mR M := by
  rw [h_X7_done]
  repeat' split
  all_goals rfl
theorem done_Adv {M M' : Mo} {is : Int32} (h : Adv M M') : Adv M (h_X7_done M' is).2 := by
  rw [h_X7_done]
  repeat' split
  all_goals exact h.o rfl rfl
theorem oR_Adv {M M' : Mo} {g : Rw} (h : Adv M M') : Adv M (oR M' g) := h.o rfl rfl
theorem up_Adv {M M' : Mo} (h : Adv M M') (hn : ¬ mS M' = mZ M') : Adv M (oS M' (mS M' + 1)) := by
  have q := h.1.up (h.1.ne hn)
  exact ⟨q.1, by have := h.2.1; omega, by rw [q.2.2]; exact h.2.2⟩
theorem done_RI {M : Mo} {is : Int32} (h : RI (mR M)) : RI (mR (h_X7_done M is).2) := by
  rw [done_R]
  exact h
theorem fig_RI {M : Mo} {ah di lo hi : Int32} (h : RI (mR M)) : RI (mR (h_X7_figures M ah di lo hi).2) := by
  rw [fig_R]
  exact h
theorem car_RI {M : Mo} (h : RI (mR M)) : RI (mR (h_X7_carSign M).2) := by
  rw [car_R]
  exact h
theorem cel_RI {M : Mo} {ah : Int32} (h : RI (mR M)) : RI (mR (h_X7_cellSign M ah).2) := by
  rw [cel_R]
  exact h
theorem RI_hydq {g : Rw} {x on on' : Int32} (h : RI g) (hc : ¬ f_X7_canHydrant g x on = 0) : RI (h_X7_hydrantOn g x.toNatClampNeg on').2 := by
  obtain ⟨j, hj, rfl⟩ := hyd_n hc
  rw [nI_clamp (by omega)]
  exact RI_hyd h hj _

theorem hyd_Adv {M M' : Mo} (h : Adv M M') : Adv M (h_X7_readHydrant M').2 := by
  have h1 : Adv M (h_X7_cellSign M' 0).2 := cel_Adv h
  rw [h_X7_readHydrant]
  by_cases q1 : ((h_X7_cellSign M' 0).1) = (-1)
  · rw [if_pos q1]
    exact h1
  · rw [if_neg q1]
    by_cases q2 : (mS ((h_X7_cellSign M' 0).2)) = (mZ ((h_X7_cellSign M' 0).2))
    · rw [if_pos q2]
      exact h1
    · rw [if_neg q2]
      by_cases q3 : ((mT ((h_X7_cellSign M' 0).2)) (mS ((h_X7_cellSign M' 0).2)).toNatClampNeg) = 43
      · rw [if_pos q3]
        by_cases q4 : (f_X7_canHydrant (mR (oS ((h_X7_cellSign M' 0).2) ((mS ((h_X7_cellSign M' 0).2)) + 1))) ((h_X7_cellSign M' 0).1) 1) = 0
        · rw [if_pos q4]
          exact done_Adv (up_Adv h1 q2)
        · rw [if_neg q4]
          by_cases q5 : ((h_X7_hydrantOn (mR (oS ((h_X7_cellSign M' 0).2) ((mS ((h_X7_cellSign M' 0).2)) + 1))) (((h_X7_cellSign M' 0).1).toNatClampNeg) 1).1) < 0
          · rw [if_pos q5]
            exact done_Adv (oR_Adv (up_Adv h1 q2))
          · rw [if_neg q5]
            exact done_Adv (oR_Adv (up_Adv h1 q2))
      · rw [if_neg q3]
        by_cases q6 : ((mT ((h_X7_cellSign M' 0).2)) (mS ((h_X7_cellSign M' 0).2)).toNatClampNeg) = 45
        · rw [if_pos q6]
          by_cases q7 : (f_X7_canHydrant (mR (oS ((h_X7_cellSign M' 0).2) ((mS ((h_X7_cellSign M' 0).2)) + 1))) ((h_X7_cellSign M' 0).1) 0) = 0
          · rw [if_pos q7]
            exact done_Adv (up_Adv h1 q2)
          · rw [if_neg q7]
            by_cases q8 : ((h_X7_hydrantOn (mR (oS ((h_X7_cellSign M' 0).2) ((mS ((h_X7_cellSign M' 0).2)) + 1))) (((h_X7_cellSign M' 0).1).toNatClampNeg) 0).1) < 0
            · rw [if_pos q8]
              exact done_Adv (oR_Adv (up_Adv h1 q2))
            · rw [if_neg q8]
              exact done_Adv (oR_Adv (up_Adv h1 q2))
        · rw [if_neg q6]
          exact h1
theorem hyd_RI {M : Mo} (h : RI (mR M)) : RI (mR (h_X7_readHydrant M).2) := by
  have h1 : RI (mR (h_X7_cellSign M 0).2) := cel_RI h
  rw [h_X7_readHydrant]
  by_cases q1 : ((h_X7_cellSign M 0).1) = (-1)
  · rw [if_pos q1]
    exact h1
  · rw [if_neg q1]
    by_cases q2 : (mS ((h_X7_cellSign M 0).2)) = (mZ ((h_X7_cellSign M 0).2))
    · rw [if_pos q2]
      exact h1
    · rw [if_neg q2]
      by_cases q3 : ((mT ((h_X7_cellSign M 0).2)) (mS ((h_X7_cellSign M 0).2)).toNatClampNeg) = 43
      · rw [if_pos q3]
        by_cases q4 : (f_X7_canHydrant (mR (oS ((h_X7_cellSign M 0).2) ((mS ((h_X7_cellSign M 0).2)) + 1))) ((h_X7_cellSign M 0).1) 1) = 0
        · rw [if_pos q4]
          exact done_RI h1
        · rw [if_neg q4]
          by_cases q5 : ((h_X7_hydrantOn (mR (oS ((h_X7_cellSign M 0).2) ((mS ((h_X7_cellSign M 0).2)) + 1))) (((h_X7_cellSign M 0).1).toNatClampNeg) 1).1) < 0
          · rw [if_pos q5]
            exact done_RI (RI_oR (RI_hydq (g := mR (h_X7_cellSign M 0).2) h1 (by first | exact q4 | exact q7)))
          · rw [if_neg q5]
            exact done_RI (RI_oR (RI_hydq (g := mR (h_X7_cellSign M 0).2) h1 (by first | exact q4 | exact q7)))
      · rw [if_neg q3]
        by_cases q6 : ((mT ((h_X7_cellSign M 0).2)) (mS ((h_X7_cellSign M 0).2)).toNatClampNeg) = 45
        · rw [if_pos q6]
          by_cases q7 : (f_X7_canHydrant (mR (oS ((h_X7_cellSign M 0).2) ((mS ((h_X7_cellSign M 0).2)) + 1))) ((h_X7_cellSign M 0).1) 0) = 0
          · rw [if_pos q7]
            exact done_RI h1
          · rw [if_neg q7]
            by_cases q8 : ((h_X7_hydrantOn (mR (oS ((h_X7_cellSign M 0).2) ((mS ((h_X7_cellSign M 0).2)) + 1))) (((h_X7_cellSign M 0).1).toNatClampNeg) 0).1) < 0
            · rw [if_pos q8]
              exact done_RI (RI_oR (RI_hydq (g := mR (h_X7_cellSign M 0).2) h1 (by first | exact q4 | exact q7)))
            · rw [if_neg q8]
              exact done_RI (RI_oR (RI_hydq (g := mR (h_X7_cellSign M 0).2) h1 (by first | exact q4 | exact q7)))
        · rw [if_neg q6]
          exact h1
theorem RI.R3 {g : Rw} (h : RI g) : ∃ r, r ≤ 4 ∧ g 3 = nI r := h.2.1

-- 40b.mod15.lean.txt
def h_X7_readCommand (M : Mo) : Int32 × Mo :=
  if ((mT M) (mS M).toNatClampNeg) = 99 then (if ((h_X7_figures ((h_X7_figures (oS M ((mS M) + 1)) 0 1 2 8).2) ((h_X7_figures (oS M ((mS M) + 1)) 0 1 2 8).1) 2 1 99).1) = (-1) then (0, (h_X7_figures ((h_X7_figures (oS M ((mS M) + 1)) 0 1 2 8).2) ((h_X7_figures (oS M ((mS M) + 1)) 0 1 2 8).1) 2 1 99).2) else
    if 40 ≤ ((mR ((h_X7_figures ((h_X7_figures (oS M ((mS M) + 1)) 0 1 2 8).2) ((h_X7_figures (oS M ((mS M) + 1)) 0 1 2 8).1) 2 1 99).2)) 0) then (1, (h_X7_done ((h_X7_figures ((h_X7_figures (oS M ((mS M) + 1)) 0 1 2 8).2) ((h_X7_figures (oS M ((mS M) + 1)) 0 1 2 8).1) 2 1 99).2) 0).2) else
    if ((h_X7_comeOn (mR ((h_X7_figures ((h_X7_figures (oS M ((mS M) + 1)) 0 1 2 8).2) ((h_X7_figures (oS M ((mS M) + 1)) 0 1 2 8).1) 2 1 99).2)) ((h_X7_figures (oS M ((mS M) + 1)) 0 1 2 8).1) ((h_X7_figures ((h_X7_figures (oS M ((mS M) + 1)) 0 1 2 8).2) ((h_X7_figures (oS M ((mS M) + 1)) 0 1 2 8).1) 2 1 99).1)).1) < 0 then (1, (h_X7_done (oR ((h_X7_figures ((h_X7_figures (oS M ((mS M) + 1)) 0 1 2 8).2) ((h_X7_figures (oS M ((mS M) + 1)) 0 1 2 8).1) 2 1 99).2) ((h_X7_comeOn (mR ((h_X7_figures ((h_X7_figures (oS M ((mS M) + 1)) 0 1 2 8).2) ((h_X7_figures (oS M ((mS M) + 1)) 0 1 2 8).1) 2 1 99).2)) ((h_X7_figures (oS M ((mS M) + 1)) 0 1 2 8).1) ((h_X7_figures ((h_X7_figures (oS M ((mS M) + 1)) 0 1 2 8).2) ((h_X7_figures (oS M ((mS M) + 1)) 0 1 2 8).1) 2 1 99).1)).2)) 0).2) else
    (1, (h_X7_done (oR ((h_X7_figures ((h_X7_figures (oS M ((mS M) + 1)) 0 1 2 8).2) ((h_X7_figures (oS M ((mS M) + 1)) 0 1 2 8).1) 2 1 99).2) ((h_X7_comeOn (mR ((h_X7_figures ((h_X7_figures (oS M ((mS M) + 1)) 0 1 2 8).2) ((h_X7_figures (oS M ((mS M) + 1)) 0 1 2 8).1) 2 1 99).2)) ((h_X7_figures (oS M ((mS M) + 1)) 0 1 2 8).1) ((h_X7_figures ((h_X7_figures (oS M ((mS M) + 1)) 0 1 2 8).2) ((h_X7_figures (oS M ((mS M) + 1)) 0 1 2 8).1) 2 1 99).1)).2)) 1).2)) else
  if ((mT M) (mS M).toNatClampNeg) = 104 then ((h_X7_readHydrant (oS M ((mS M) + 1))).1, (h_X7_readHydrant (oS M ((mS M) + 1))).2) else
  if ((mT M) (mS M).toNatClampNeg) = 108 then (if ((h_X7_carSign (oS M ((mS M) + 1))).1) = (-1) then (0, (h_X7_carSign (oS M ((mS M) + 1))).2) else
    if (f_X7_isParked (mR ((h_X7_carSign (oS M ((mS M) + 1))).2)) ((h_X7_carSign (oS M ((mS M) + 1))).1)) = 0 then (1, (h_X7_done ((h_X7_carSign (oS M ((mS M) + 1))).2) 0).2) else
    if ((h_X7_goes (mR ((h_X7_carSign (oS M ((mS M) + 1))).2)) (((h_X7_carSign (oS M ((mS M) + 1))).1).toNatClampNeg) 2).1) < 0 then (1, (h_X7_done (oR ((h_X7_carSign (oS M ((mS M) + 1))).2) ((h_X7_goes (mR ((h_X7_carSign (oS M ((mS M) + 1))).2)) (((h_X7_carSign (oS M ((mS M) + 1))).1).toNatClampNeg) 2).2)) 0).2) else
    (1, (h_X7_done (oR ((h_X7_carSign (oS M ((mS M) + 1))).2) ((h_X7_goes (mR ((h_X7_carSign (oS M ((mS M) + 1))).2)) (((h_X7_carSign (oS M ((mS M) + 1))).1).toNatClampNeg) 2).2)) 1).2)) else
  if ((mT M) (mS M).toNatClampNeg) = 109 then (if ((h_X7_cellSign ((h_X7_carSign (oS M ((mS M) + 1))).2) ((h_X7_carSign (oS M ((mS M) + 1))).1)).1) = (-1) then (0, (h_X7_cellSign ((h_X7_carSign (oS M ((mS M) + 1))).2) ((h_X7_carSign (oS M ((mS M) + 1))).1)).2) else
    if (f_X7_isCar (mR ((h_X7_cellSign ((h_X7_carSign (oS M ((mS M) + 1))).2) ((h_X7_carSign (oS M ((mS M) + 1))).1)).2)) ((h_X7_carSign (oS M ((mS M) + 1))).1)) = 0 then (1, (h_X7_done ((h_X7_cellSign ((h_X7_carSign (oS M ((mS M) + 1))).2) ((h_X7_carSign (oS M ((mS M) + 1))).1)).2) 0).2) else
    if (f_X7_canMove (mR ((h_X7_cellSign ((h_X7_carSign (oS M ((mS M) + 1))).2) ((h_X7_carSign (oS M ((mS M) + 1))).1)).2)) (((h_X7_carSign (oS M ((mS M) + 1))).1).toNatClampNeg) (((h_X7_cellSign ((h_X7_carSign (oS M ((mS M) + 1))).2) ((h_X7_carSign (oS M ((mS M) + 1))).1)).1).toNatClampNeg)) = 0 then (1, (h_X7_done ((h_X7_cellSign ((h_X7_carSign (oS M ((mS M) + 1))).2) ((h_X7_carSign (oS M ((mS M) + 1))).1)).2) 0).2) else
    if ((h_X7_moveOn (mR ((h_X7_cellSign ((h_X7_carSign (oS M ((mS M) + 1))).2) ((h_X7_carSign (oS M ((mS M) + 1))).1)).2)) (((h_X7_carSign (oS M ((mS M) + 1))).1).toNatClampNeg) (((h_X7_cellSign ((h_X7_carSign (oS M ((mS M) + 1))).2) ((h_X7_carSign (oS M ((mS M) + 1))).1)).1).toNatClampNeg)).1) < 0 then (1, (h_X7_done (oR ((h_X7_cellSign ((h_X7_carSign (oS M ((mS M) + 1))).2) ((h_X7_carSign (oS M ((mS M) + 1))).1)).2) ((h_X7_moveOn (mR ((h_X7_cellSign ((h_X7_carSign (oS M ((mS M) + 1))).2) ((h_X7_carSign (oS M ((mS M) + 1))).1)).2)) (((h_X7_carSign (oS M ((mS M) + 1))).1).toNatClampNeg) (((h_X7_cellSign ((h_X7_carSign (oS M ((mS M) + 1))).2) ((h_X7_carSign (oS M ((mS M) + 1))).1)).1).toNatClampNeg)).2)) 0).2) else
    (1, (h_X7_done (oR ((h_X7_cellSign ((h_X7_carSign (oS M ((mS M) + 1))).2) ((h_X7_carSign (oS M ((mS M) + 1))).1)).2) ((h_X7_moveOn (mR ((h_X7_cellSign ((h_X7_carSign (oS M ((mS M) + 1))).2) ((h_X7_carSign (oS M ((mS M) + 1))).1)).2)) (((h_X7_carSign (oS M ((mS M) + 1))).1).toNatClampNeg) (((h_X7_cellSign ((h_X7_carSign (oS M ((mS M) + 1))).2) ((h_X7_carSign (oS M ((mS M) + 1))).1)).1).toNatClampNeg)).2)) 1).2)) else
  if ((mT M) (mS M).toNatClampNeg) = 112 then (if ((h_X7_figures (oS M ((mS M) + 1)) 0 2 1 60).1) = (-1) then (0, (h_X7_figures (oS M ((mS M) + 1)) 0 2 1 60).2) else
    if ((h_X7_minutesOn (mR ((h_X7_figures (oS M ((mS M) + 1)) 0 2 1 60).2)) ((h_X7_figures (oS M ((mS M) + 1)) 0 2 1 60).1)).1) < 0 then (1, (h_X7_done (oR ((h_X7_figures (oS M ((mS M) + 1)) 0 2 1 60).2) ((h_X7_minutesOn (mR ((h_X7_figures (oS M ((mS M) + 1)) 0 2 1 60).2)) ((h_X7_figures (oS M ((mS M) + 1)) 0 2 1 60).1)).2)) 0).2) else
    (1, (h_X7_done (oR ((h_X7_figures (oS M ((mS M) + 1)) 0 2 1 60).2) ((h_X7_minutesOn (mR ((h_X7_figures (oS M ((mS M) + 1)) 0 2 1 60).2)) ((h_X7_figures (oS M ((mS M) + 1)) 0 2 1 60).1)).2)) 1).2)) else
  if ((mT M) (mS M).toNatClampNeg) = 114 then (if ((h_X7_figures (oS M ((mS M) + 1)) 0 1 0 2).1) = (-1) then (0, (h_X7_figures (oS M ((mS M) + 1)) 0 1 0 2).2) else
    if ((h_X7_change (mR ((h_X7_figures (oS M ((mS M) + 1)) 0 1 0 2).2)) 0 ((h_X7_figures (oS M ((mS M) + 1)) 0 1 0 2).1)).1) < 0 then (1, (h_X7_done (oR ((h_X7_figures (oS M ((mS M) + 1)) 0 1 0 2).2) ((h_X7_change (mR ((h_X7_figures (oS M ((mS M) + 1)) 0 1 0 2).2)) 0 ((h_X7_figures (oS M ((mS M) + 1)) 0 1 0 2).1)).2)) 0).2) else
    (1, (h_X7_done (oR ((h_X7_figures (oS M ((mS M) + 1)) 0 1 0 2).2) ((h_X7_change (mR ((h_X7_figures (oS M ((mS M) + 1)) 0 1 0 2).2)) 0 ((h_X7_figures (oS M ((mS M) + 1)) 0 1 0 2).1)).2)) 1).2)) else
  if ((mT M) (mS M).toNatClampNeg) = 116 then (if ((h_X7_carSign (oS M ((mS M) + 1))).1) = (-1) then (0, (h_X7_carSign (oS M ((mS M) + 1))).2) else
    if (f_X7_isParked (mR ((h_X7_carSign (oS M ((mS M) + 1))).2)) ((h_X7_carSign (oS M ((mS M) + 1))).1)) = 0 then (1, (h_X7_done ((h_X7_carSign (oS M ((mS M) + 1))).2) 0).2) else
    if ((h_X7_goes (mR ((h_X7_carSign (oS M ((mS M) + 1))).2)) (((h_X7_carSign (oS M ((mS M) + 1))).1).toNatClampNeg) 4).1) < 0 then (1, (h_X7_done (oR ((h_X7_carSign (oS M ((mS M) + 1))).2) ((h_X7_goes (mR ((h_X7_carSign (oS M ((mS M) + 1))).2)) (((h_X7_carSign (oS M ((mS M) + 1))).1).toNatClampNeg) 4).2)) 0).2) else
    (1, (h_X7_done (oR ((h_X7_carSign (oS M ((mS M) + 1))).2) ((h_X7_goes (mR ((h_X7_carSign (oS M ((mS M) + 1))).2)) (((h_X7_carSign (oS M ((mS M) + 1))).1).toNatClampNeg) 4).2)) 1).2)) else
  (0, (oS (oS M ((mS M) + 1)) ((mS (oS M ((mS M) + 1))) - 1)))
-- 40c.mod15.lean.txt
theorem oS_RI {M : Mo} {v : Int32} (h : RI (mR M)) : RI (mR (oS M v)) := by
  rw [mR_oS]
  exact h
theorem RI_goesq {g : Rw} {c sta : Int32} (h : RI g) (hp : ¬ f_X7_isParked g c = 0) (hs : sta ≠ 0) : RI (h_X7_goes g c.toNatClampNeg sta).2 := by
  obtain ⟨j, hj, rfl, h2⟩ := park_c h hp
  have hm := h.m
  rw [nI_clamp (by omega)]
  exact RI_goes h (h.X hj h2).2.2 hs
theorem RI_mvq {g : Rw} {c x : Int32} (h : RI g) (hi : ¬ f_X7_isCar g c = 0) (hx : ∃ j, j < 80 ∧ x = nI j) (hm : ¬ f_X7_canMove g c.toNatClampNeg x.toNatClampNeg = 0) : RI (h_X7_moveOn g c.toNatClampNeg x.toNatClampNeg).2 := by
  obtain ⟨j, hj, rfl⟩ := car_40x hi h
  obtain ⟨u, hu, rfl⟩ := hx
  rw [nI_clamp (by omega), nI_clamp (by omega)] at hm ⊢
  have q := mv_ok h hj hu hm
  exact RI_moveOn h q.1 q.2.1 q.2.2

set_option maxHeartbeats 4000000 in
theorem cmd_ok {M : Mo} (hTI : TI M) (hsz : sp M < zz M) (h : RI (mR M)) : RI (mR (h_X7_readCommand M).2) := by
  have h1 : RI (mR (oS M ((mS M) + 1))) := h
  rw [h_X7_readCommand]
  by_cases q1 : ((mT M) (mS M).toNatClampNeg) = 99
  · rw [if_pos q1]
    by_cases q2 : ((h_X7_figures ((h_X7_figures (oS M ((mS M) + 1)) 0 1 2 8).2) ((h_X7_figures (oS M ((mS M) + 1)) 0 1 2 8).1) 2 1 99).1) = (-1)
    · rw [if_pos q2]
      dsimp only
      (repeat (first | with_reducible exact h1 | with_reducible apply done_RI | with_reducible apply fig_RI | with_reducible apply car_RI | with_reducible apply cel_RI | with_reducible apply oS_RI))
    · rw [if_neg q2]
      by_cases q3 : 40 ≤ ((mR ((h_X7_figures ((h_X7_figures (oS M ((mS M) + 1)) 0 1 2 8).2) ((h_X7_figures (oS M ((mS M) + 1)) 0 1 2 8).1) 2 1 99).2)) 0)
      · rw [if_pos q3]
        dsimp only
        (repeat (first | with_reducible exact h1 | with_reducible apply done_RI | with_reducible apply fig_RI | with_reducible apply car_RI | with_reducible apply cel_RI | with_reducible apply oS_RI))
      · rw [if_neg q3]
        by_cases q4 : ((h_X7_comeOn (mR ((h_X7_figures ((h_X7_figures (oS M ((mS M) + 1)) 0 1 2 8).2) ((h_X7_figures (oS M ((mS M) + 1)) 0 1 2 8).1) 2 1 99).2)) ((h_X7_figures (oS M ((mS M) + 1)) 0 1 2 8).1) ((h_X7_figures ((h_X7_figures (oS M ((mS M) + 1)) 0 1 2 8).2) ((h_X7_figures (oS M ((mS M) + 1)) 0 1 2 8).1) 2 1 99).1)).1) < 0
        · rw [if_pos q4]
          have hY : RI (mR ((h_X7_figures ((h_X7_figures (oS M ((mS M) + 1)) 0 1 2 8).2) ((h_X7_figures (oS M ((mS M) + 1)) 0 1 2 8).1) 2 1 99).2)) := by (repeat (first | with_reducible exact h1 | with_reducible apply done_RI | with_reducible apply fig_RI | with_reducible apply car_RI | with_reducible apply cel_RI | with_reducible apply oS_RI))
          exact done_RI (RI_oR (RI_come hY (gm40 hY (by first | with_reducible assumption | assumption)) (fig_len (by first | with_reducible assumption | assumption))))
        · rw [if_neg q4]
          have hY : RI (mR ((h_X7_figures ((h_X7_figures (oS M ((mS M) + 1)) 0 1 2 8).2) ((h_X7_figures (oS M ((mS M) + 1)) 0 1 2 8).1) 2 1 99).2)) := by (repeat (first | with_reducible exact h1 | with_reducible apply done_RI | with_reducible apply fig_RI | with_reducible apply car_RI | with_reducible apply cel_RI | with_reducible apply oS_RI))
          exact done_RI (RI_oR (RI_come hY (gm40 hY (by first | with_reducible assumption | assumption)) (fig_len (by first | with_reducible assumption | assumption))))
  · rw [if_neg q1]
    by_cases q5 : ((mT M) (mS M).toNatClampNeg) = 104
    · rw [if_pos q5]
      exact hyd_RI h1
    · rw [if_neg q5]
      by_cases q6 : ((mT M) (mS M).toNatClampNeg) = 108
      · rw [if_pos q6]
        by_cases q7 : ((h_X7_carSign (oS M ((mS M) + 1))).1) = (-1)
        · rw [if_pos q7]
          dsimp only
          (repeat (first | with_reducible exact h1 | with_reducible apply done_RI | with_reducible apply fig_RI | with_reducible apply car_RI | with_reducible apply cel_RI | with_reducible apply oS_RI))
        · rw [if_neg q7]
          by_cases q8 : (f_X7_isParked (mR ((h_X7_carSign (oS M ((mS M) + 1))).2)) ((h_X7_carSign (oS M ((mS M) + 1))).1)) = 0
          · rw [if_pos q8]
            dsimp only
            (repeat (first | with_reducible exact h1 | with_reducible apply done_RI | with_reducible apply fig_RI | with_reducible apply car_RI | with_reducible apply cel_RI | with_reducible apply oS_RI))
          · rw [if_neg q8]
            by_cases q9 : ((h_X7_goes (mR ((h_X7_carSign (oS M ((mS M) + 1))).2)) (((h_X7_carSign (oS M ((mS M) + 1))).1).toNatClampNeg) 2).1) < 0
            · rw [if_pos q9]
              have hY : RI (mR ((h_X7_carSign (oS M ((mS M) + 1))).2)) := by (repeat (first | with_reducible exact h1 | with_reducible apply done_RI | with_reducible apply fig_RI | with_reducible apply car_RI | with_reducible apply cel_RI | with_reducible apply oS_RI))
              exact done_RI (RI_oR (RI_goesq hY (by first | with_reducible assumption | assumption) (by decide)))
            · rw [if_neg q9]
              have hY : RI (mR ((h_X7_carSign (oS M ((mS M) + 1))).2)) := by (repeat (first | with_reducible exact h1 | with_reducible apply done_RI | with_reducible apply fig_RI | with_reducible apply car_RI | with_reducible apply cel_RI | with_reducible apply oS_RI))
              exact done_RI (RI_oR (RI_goesq hY (by first | with_reducible assumption | assumption) (by decide)))
      · rw [if_neg q6]
        by_cases q10 : ((mT M) (mS M).toNatClampNeg) = 109
        · rw [if_pos q10]
          by_cases q11 : ((h_X7_cellSign ((h_X7_carSign (oS M ((mS M) + 1))).2) ((h_X7_carSign (oS M ((mS M) + 1))).1)).1) = (-1)
          · rw [if_pos q11]
            dsimp only
            (repeat (first | with_reducible exact h1 | with_reducible apply done_RI | with_reducible apply fig_RI | with_reducible apply car_RI | with_reducible apply cel_RI | with_reducible apply oS_RI))
          · rw [if_neg q11]
            by_cases q12 : (f_X7_isCar (mR ((h_X7_cellSign ((h_X7_carSign (oS M ((mS M) + 1))).2) ((h_X7_carSign (oS M ((mS M) + 1))).1)).2)) ((h_X7_carSign (oS M ((mS M) + 1))).1)) = 0
            · rw [if_pos q12]
              dsimp only
              (repeat (first | with_reducible exact h1 | with_reducible apply done_RI | with_reducible apply fig_RI | with_reducible apply car_RI | with_reducible apply cel_RI | with_reducible apply oS_RI))
            · rw [if_neg q12]
              by_cases q13 : (f_X7_canMove (mR ((h_X7_cellSign ((h_X7_carSign (oS M ((mS M) + 1))).2) ((h_X7_carSign (oS M ((mS M) + 1))).1)).2)) (((h_X7_carSign (oS M ((mS M) + 1))).1).toNatClampNeg) (((h_X7_cellSign ((h_X7_carSign (oS M ((mS M) + 1))).2) ((h_X7_carSign (oS M ((mS M) + 1))).1)).1).toNatClampNeg)) = 0
              · rw [if_pos q13]
                dsimp only
                (repeat (first | with_reducible exact h1 | with_reducible apply done_RI | with_reducible apply fig_RI | with_reducible apply car_RI | with_reducible apply cel_RI | with_reducible apply oS_RI))
              · rw [if_neg q13]
                by_cases q14 : ((h_X7_moveOn (mR ((h_X7_cellSign ((h_X7_carSign (oS M ((mS M) + 1))).2) ((h_X7_carSign (oS M ((mS M) + 1))).1)).2)) (((h_X7_carSign (oS M ((mS M) + 1))).1).toNatClampNeg) (((h_X7_cellSign ((h_X7_carSign (oS M ((mS M) + 1))).2) ((h_X7_carSign (oS M ((mS M) + 1))).1)).1).toNatClampNeg)).1) < 0
                · rw [if_pos q14]
                  have hY : RI (mR ((h_X7_cellSign ((h_X7_carSign (oS M ((mS M) + 1))).2) ((h_X7_carSign (oS M ((mS M) + 1))).1)).2)) := by (repeat (first | with_reducible exact h1 | with_reducible apply done_RI | with_reducible apply fig_RI | with_reducible apply car_RI | with_reducible apply cel_RI | with_reducible apply oS_RI))
                  exact done_RI (RI_oR (RI_mvq hY (by first | with_reducible assumption | assumption) (cel_n (by first | with_reducible assumption | assumption)) (by first | with_reducible assumption | assumption)))
                · rw [if_neg q14]
                  have hY : RI (mR ((h_X7_cellSign ((h_X7_carSign (oS M ((mS M) + 1))).2) ((h_X7_carSign (oS M ((mS M) + 1))).1)).2)) := by (repeat (first | with_reducible exact h1 | with_reducible apply done_RI | with_reducible apply fig_RI | with_reducible apply car_RI | with_reducible apply cel_RI | with_reducible apply oS_RI))
                  exact done_RI (RI_oR (RI_mvq hY (by first | with_reducible assumption | assumption) (cel_n (by first | with_reducible assumption | assumption)) (by first | with_reducible assumption | assumption)))
        · rw [if_neg q10]
          by_cases q15 : ((mT M) (mS M).toNatClampNeg) = 112
          · rw [if_pos q15]
            by_cases q16 : ((h_X7_figures (oS M ((mS M) + 1)) 0 2 1 60).1) = (-1)
            · rw [if_pos q16]
              dsimp only
              (repeat (first | with_reducible exact h1 | with_reducible apply done_RI | with_reducible apply fig_RI | with_reducible apply car_RI | with_reducible apply cel_RI | with_reducible apply oS_RI))
            · rw [if_neg q16]
              by_cases q17 : ((h_X7_minutesOn (mR ((h_X7_figures (oS M ((mS M) + 1)) 0 2 1 60).2)) ((h_X7_figures (oS M ((mS M) + 1)) 0 2 1 60).1)).1) < 0
              · rw [if_pos q17]
                have hY : RI (mR ((h_X7_figures (oS M ((mS M) + 1)) 0 2 1 60).2)) := by (repeat (first | with_reducible exact h1 | with_reducible apply done_RI | with_reducible apply fig_RI | with_reducible apply car_RI | with_reducible apply cel_RI | with_reducible apply oS_RI))
                exact done_RI (RI_oR (RI_mins hY _))
              · rw [if_neg q17]
                have hY : RI (mR ((h_X7_figures (oS M ((mS M) + 1)) 0 2 1 60).2)) := by (repeat (first | with_reducible exact h1 | with_reducible apply done_RI | with_reducible apply fig_RI | with_reducible apply car_RI | with_reducible apply cel_RI | with_reducible apply oS_RI))
                exact done_RI (RI_oR (RI_mins hY _))
          · rw [if_neg q15]
            by_cases q18 : ((mT M) (mS M).toNatClampNeg) = 114
            · rw [if_pos q18]
              by_cases q19 : ((h_X7_figures (oS M ((mS M) + 1)) 0 1 0 2).1) = (-1)
              · rw [if_pos q19]
                dsimp only
                (repeat (first | with_reducible exact h1 | with_reducible apply done_RI | with_reducible apply fig_RI | with_reducible apply car_RI | with_reducible apply cel_RI | with_reducible apply oS_RI))
              · rw [if_neg q19]
                by_cases q20 : ((h_X7_change (mR ((h_X7_figures (oS M ((mS M) + 1)) 0 1 0 2).2)) 0 ((h_X7_figures (oS M ((mS M) + 1)) 0 1 0 2).1)).1) < 0
                · rw [if_pos q20]
                  have hY : RI (mR ((h_X7_figures (oS M ((mS M) + 1)) 0 1 0 2).2)) := by (repeat (first | with_reducible exact h1 | with_reducible apply done_RI | with_reducible apply fig_RI | with_reducible apply car_RI | with_reducible apply cel_RI | with_reducible apply oS_RI))
                  exact done_RI (RI_oR (RI_chg hY (by omega) _ (fun z => absurd z (by decide))))
                · rw [if_neg q20]
                  have hY : RI (mR ((h_X7_figures (oS M ((mS M) + 1)) 0 1 0 2).2)) := by (repeat (first | with_reducible exact h1 | with_reducible apply done_RI | with_reducible apply fig_RI | with_reducible apply car_RI | with_reducible apply cel_RI | with_reducible apply oS_RI))
                  exact done_RI (RI_oR (RI_chg hY (by omega) _ (fun z => absurd z (by decide))))
            · rw [if_neg q18]
              by_cases q21 : ((mT M) (mS M).toNatClampNeg) = 116
              · rw [if_pos q21]
                by_cases q22 : ((h_X7_carSign (oS M ((mS M) + 1))).1) = (-1)
                · rw [if_pos q22]
                  dsimp only
                  (repeat (first | with_reducible exact h1 | with_reducible apply done_RI | with_reducible apply fig_RI | with_reducible apply car_RI | with_reducible apply cel_RI | with_reducible apply oS_RI))
                · rw [if_neg q22]
                  by_cases q23 : (f_X7_isParked (mR ((h_X7_carSign (oS M ((mS M) + 1))).2)) ((h_X7_carSign (oS M ((mS M) + 1))).1)) = 0
                  · rw [if_pos q23]
                    dsimp only
                    (repeat (first | with_reducible exact h1 | with_reducible apply done_RI | with_reducible apply fig_RI | with_reducible apply car_RI | with_reducible apply cel_RI | with_reducible apply oS_RI))
                  · rw [if_neg q23]
                    by_cases q24 : ((h_X7_goes (mR ((h_X7_carSign (oS M ((mS M) + 1))).2)) (((h_X7_carSign (oS M ((mS M) + 1))).1).toNatClampNeg) 4).1) < 0
                    · rw [if_pos q24]
                      have hY : RI (mR ((h_X7_carSign (oS M ((mS M) + 1))).2)) := by (repeat (first | with_reducible exact h1 | with_reducible apply done_RI | with_reducible apply fig_RI | with_reducible apply car_RI | with_reducible apply cel_RI | with_reducible apply oS_RI))
                      exact done_RI (RI_oR (RI_goesq hY (by first | with_reducible assumption | assumption) (by decide)))
                    · rw [if_neg q24]
                      have hY : RI (mR ((h_X7_carSign (oS M ((mS M) + 1))).2)) := by (repeat (first | with_reducible exact h1 | with_reducible apply done_RI | with_reducible apply fig_RI | with_reducible apply car_RI | with_reducible apply cel_RI | with_reducible apply oS_RI))
                      exact done_RI (RI_oR (RI_goesq hY (by first | with_reducible assumption | assumption) (by decide)))
              · rw [if_neg q21]
                dsimp only
                (repeat (first | with_reducible exact h1 | with_reducible apply done_RI | with_reducible apply fig_RI | with_reducible apply car_RI | with_reducible apply cel_RI | with_reducible apply oS_RI))
set_option maxHeartbeats 4000000 in
theorem cmd_Adv {M : Mo} (hTI : TI M) (hsz : sp M < zz M) : ¬ (h_X7_readCommand M).1 = 0 → Adv (oS M ((mS M) + 1)) (h_X7_readCommand M).2 := by
  have a0 := (hTI.up hsz).1.A
  rw [h_X7_readCommand]
  by_cases q1 : ((mT M) (mS M).toNatClampNeg) = 99
  · rw [if_pos q1]
    by_cases q2 : ((h_X7_figures ((h_X7_figures (oS M ((mS M) + 1)) 0 1 2 8).2) ((h_X7_figures (oS M ((mS M) + 1)) 0 1 2 8).1) 2 1 99).1) = (-1)
    · rw [if_pos q2]
      exact fun z => absurd rfl z
    · rw [if_neg q2]
      by_cases q3 : 40 ≤ ((mR ((h_X7_figures ((h_X7_figures (oS M ((mS M) + 1)) 0 1 2 8).2) ((h_X7_figures (oS M ((mS M) + 1)) 0 1 2 8).1) 2 1 99).2)) 0)
      · rw [if_pos q3]
        intro _
        dsimp only
        (repeat (first | with_reducible exact a0 | with_reducible apply done_Adv | with_reducible apply hyd_Adv | with_reducible apply fig_Adv | with_reducible apply car_Adv | with_reducible apply cel_Adv | with_reducible apply oR_Adv))
      · rw [if_neg q3]
        by_cases q4 : ((h_X7_comeOn (mR ((h_X7_figures ((h_X7_figures (oS M ((mS M) + 1)) 0 1 2 8).2) ((h_X7_figures (oS M ((mS M) + 1)) 0 1 2 8).1) 2 1 99).2)) ((h_X7_figures (oS M ((mS M) + 1)) 0 1 2 8).1) ((h_X7_figures ((h_X7_figures (oS M ((mS M) + 1)) 0 1 2 8).2) ((h_X7_figures (oS M ((mS M) + 1)) 0 1 2 8).1) 2 1 99).1)).1) < 0
        · rw [if_pos q4]
          intro _
          dsimp only
          (repeat (first | with_reducible exact a0 | with_reducible apply done_Adv | with_reducible apply hyd_Adv | with_reducible apply fig_Adv | with_reducible apply car_Adv | with_reducible apply cel_Adv | with_reducible apply oR_Adv))
        · rw [if_neg q4]
          intro _
          dsimp only
          (repeat (first | with_reducible exact a0 | with_reducible apply done_Adv | with_reducible apply hyd_Adv | with_reducible apply fig_Adv | with_reducible apply car_Adv | with_reducible apply cel_Adv | with_reducible apply oR_Adv))
  · rw [if_neg q1]
    by_cases q5 : ((mT M) (mS M).toNatClampNeg) = 104
    · rw [if_pos q5]
      intro _
      dsimp only
      (repeat (first | with_reducible exact a0 | with_reducible apply done_Adv | with_reducible apply hyd_Adv | with_reducible apply fig_Adv | with_reducible apply car_Adv | with_reducible apply cel_Adv | with_reducible apply oR_Adv))
    · rw [if_neg q5]
      by_cases q6 : ((mT M) (mS M).toNatClampNeg) = 108
      · rw [if_pos q6]
        by_cases q7 : ((h_X7_carSign (oS M ((mS M) + 1))).1) = (-1)
        · rw [if_pos q7]
          exact fun z => absurd rfl z
        · rw [if_neg q7]
          by_cases q8 : (f_X7_isParked (mR ((h_X7_carSign (oS M ((mS M) + 1))).2)) ((h_X7_carSign (oS M ((mS M) + 1))).1)) = 0
          · rw [if_pos q8]
            intro _
            dsimp only
            (repeat (first | with_reducible exact a0 | with_reducible apply done_Adv | with_reducible apply hyd_Adv | with_reducible apply fig_Adv | with_reducible apply car_Adv | with_reducible apply cel_Adv | with_reducible apply oR_Adv))
          · rw [if_neg q8]
            by_cases q9 : ((h_X7_goes (mR ((h_X7_carSign (oS M ((mS M) + 1))).2)) (((h_X7_carSign (oS M ((mS M) + 1))).1).toNatClampNeg) 2).1) < 0
            · rw [if_pos q9]
              intro _
              dsimp only
              (repeat (first | with_reducible exact a0 | with_reducible apply done_Adv | with_reducible apply hyd_Adv | with_reducible apply fig_Adv | with_reducible apply car_Adv | with_reducible apply cel_Adv | with_reducible apply oR_Adv))
            · rw [if_neg q9]
              intro _
              dsimp only
              (repeat (first | with_reducible exact a0 | with_reducible apply done_Adv | with_reducible apply hyd_Adv | with_reducible apply fig_Adv | with_reducible apply car_Adv | with_reducible apply cel_Adv | with_reducible apply oR_Adv))
      · rw [if_neg q6]
        by_cases q10 : ((mT M) (mS M).toNatClampNeg) = 109
        · rw [if_pos q10]
          by_cases q11 : ((h_X7_cellSign ((h_X7_carSign (oS M ((mS M) + 1))).2) ((h_X7_carSign (oS M ((mS M) + 1))).1)).1) = (-1)
          · rw [if_pos q11]
            exact fun z => absurd rfl z
          · rw [if_neg q11]
            by_cases q12 : (f_X7_isCar (mR ((h_X7_cellSign ((h_X7_carSign (oS M ((mS M) + 1))).2) ((h_X7_carSign (oS M ((mS M) + 1))).1)).2)) ((h_X7_carSign (oS M ((mS M) + 1))).1)) = 0
            · rw [if_pos q12]
              intro _
              dsimp only
              (repeat (first | with_reducible exact a0 | with_reducible apply done_Adv | with_reducible apply hyd_Adv | with_reducible apply fig_Adv | with_reducible apply car_Adv | with_reducible apply cel_Adv | with_reducible apply oR_Adv))
            · rw [if_neg q12]
              by_cases q13 : (f_X7_canMove (mR ((h_X7_cellSign ((h_X7_carSign (oS M ((mS M) + 1))).2) ((h_X7_carSign (oS M ((mS M) + 1))).1)).2)) (((h_X7_carSign (oS M ((mS M) + 1))).1).toNatClampNeg) (((h_X7_cellSign ((h_X7_carSign (oS M ((mS M) + 1))).2) ((h_X7_carSign (oS M ((mS M) + 1))).1)).1).toNatClampNeg)) = 0
              · rw [if_pos q13]
                intro _
                dsimp only
                (repeat (first | with_reducible exact a0 | with_reducible apply done_Adv | with_reducible apply hyd_Adv | with_reducible apply fig_Adv | with_reducible apply car_Adv | with_reducible apply cel_Adv | with_reducible apply oR_Adv))
              · rw [if_neg q13]
                by_cases q14 : ((h_X7_moveOn (mR ((h_X7_cellSign ((h_X7_carSign (oS M ((mS M) + 1))).2) ((h_X7_carSign (oS M ((mS M) + 1))).1)).2)) (((h_X7_carSign (oS M ((mS M) + 1))).1).toNatClampNeg) (((h_X7_cellSign ((h_X7_carSign (oS M ((mS M) + 1))).2) ((h_X7_carSign (oS M ((mS M) + 1))).1)).1).toNatClampNeg)).1) < 0
                · rw [if_pos q14]
                  intro _
                  dsimp only
                  (repeat (first | with_reducible exact a0 | with_reducible apply done_Adv | with_reducible apply hyd_Adv | with_reducible apply fig_Adv | with_reducible apply car_Adv | with_reducible apply cel_Adv | with_reducible apply oR_Adv))
                · rw [if_neg q14]
                  intro _
                  dsimp only
                  (repeat (first | with_reducible exact a0 | with_reducible apply done_Adv | with_reducible apply hyd_Adv | with_reducible apply fig_Adv | with_reducible apply car_Adv | with_reducible apply cel_Adv | with_reducible apply oR_Adv))
        · rw [if_neg q10]
          by_cases q15 : ((mT M) (mS M).toNatClampNeg) = 112
          · rw [if_pos q15]
            by_cases q16 : ((h_X7_figures (oS M ((mS M) + 1)) 0 2 1 60).1) = (-1)
            · rw [if_pos q16]
              exact fun z => absurd rfl z
            · rw [if_neg q16]
              by_cases q17 : ((h_X7_minutesOn (mR ((h_X7_figures (oS M ((mS M) + 1)) 0 2 1 60).2)) ((h_X7_figures (oS M ((mS M) + 1)) 0 2 1 60).1)).1) < 0
              · rw [if_pos q17]
                intro _
                dsimp only
                (repeat (first | with_reducible exact a0 | with_reducible apply done_Adv | with_reducible apply hyd_Adv | with_reducible apply fig_Adv | with_reducible apply car_Adv | with_reducible apply cel_Adv | with_reducible apply oR_Adv))
              · rw [if_neg q17]
                intro _
                dsimp only
                (repeat (first | with_reducible exact a0 | with_reducible apply done_Adv | with_reducible apply hyd_Adv | with_reducible apply fig_Adv | with_reducible apply car_Adv | with_reducible apply cel_Adv | with_reducible apply oR_Adv))
          · rw [if_neg q15]
            by_cases q18 : ((mT M) (mS M).toNatClampNeg) = 114
            · rw [if_pos q18]
              by_cases q19 : ((h_X7_figures (oS M ((mS M) + 1)) 0 1 0 2).1) = (-1)
              · rw [if_pos q19]
                exact fun z => absurd rfl z
              · rw [if_neg q19]
                by_cases q20 : ((h_X7_change (mR ((h_X7_figures (oS M ((mS M) + 1)) 0 1 0 2).2)) 0 ((h_X7_figures (oS M ((mS M) + 1)) 0 1 0 2).1)).1) < 0
                · rw [if_pos q20]
                  intro _
                  dsimp only
                  (repeat (first | with_reducible exact a0 | with_reducible apply done_Adv | with_reducible apply hyd_Adv | with_reducible apply fig_Adv | with_reducible apply car_Adv | with_reducible apply cel_Adv | with_reducible apply oR_Adv))
                · rw [if_neg q20]
                  intro _
                  dsimp only
                  (repeat (first | with_reducible exact a0 | with_reducible apply done_Adv | with_reducible apply hyd_Adv | with_reducible apply fig_Adv | with_reducible apply car_Adv | with_reducible apply cel_Adv | with_reducible apply oR_Adv))
            · rw [if_neg q18]
              by_cases q21 : ((mT M) (mS M).toNatClampNeg) = 116
              · rw [if_pos q21]
                by_cases q22 : ((h_X7_carSign (oS M ((mS M) + 1))).1) = (-1)
                · rw [if_pos q22]
                  exact fun z => absurd rfl z
                · rw [if_neg q22]
                  by_cases q23 : (f_X7_isParked (mR ((h_X7_carSign (oS M ((mS M) + 1))).2)) ((h_X7_carSign (oS M ((mS M) + 1))).1)) = 0
                  · rw [if_pos q23]
                    intro _
                    dsimp only
                    (repeat (first | with_reducible exact a0 | with_reducible apply done_Adv | with_reducible apply hyd_Adv | with_reducible apply fig_Adv | with_reducible apply car_Adv | with_reducible apply cel_Adv | with_reducible apply oR_Adv))
                  · rw [if_neg q23]
                    by_cases q24 : ((h_X7_goes (mR ((h_X7_carSign (oS M ((mS M) + 1))).2)) (((h_X7_carSign (oS M ((mS M) + 1))).1).toNatClampNeg) 4).1) < 0
                    · rw [if_pos q24]
                      intro _
                      dsimp only
                      (repeat (first | with_reducible exact a0 | with_reducible apply done_Adv | with_reducible apply hyd_Adv | with_reducible apply fig_Adv | with_reducible apply car_Adv | with_reducible apply cel_Adv | with_reducible apply oR_Adv))
                    · rw [if_neg q24]
                      intro _
                      dsimp only
                      (repeat (first | with_reducible exact a0 | with_reducible apply done_Adv | with_reducible apply hyd_Adv | with_reducible apply fig_Adv | with_reducible apply car_Adv | with_reducible apply cel_Adv | with_reducible apply oR_Adv))
              · rw [if_neg q21]
                exact fun z => absurd rfl z
theorem cmd_TI {M : Mo} (hTI : TI M) (hsz : sp M < zz M) (hn : ¬ (h_X7_readCommand M).1 = 0) : TI (h_X7_readCommand M).2 ∧ zz (h_X7_readCommand M).2 - sp (h_X7_readCommand M).2 < zz M - sp M := by
  have q := cmd_Adv hTI hsz hn
  have r := hTI.up hsz
  refine ⟨q.1, ?_⟩
  have a := q.1.2.2.2
  have c := q.2.1
  have d := q.2.2
  omega

-- 41.mod16.lean.txt
theorem cl2_at : ∀ (n k : Nat) (g : Rw) (i : Nat), k ≤ 80 → k + n = 81 → lp_cl2 n k g i = if i = 6 then 1 else if i = 4 then 5 else if i = 3 then 1 else if 7 + k ≤ i ∧ i < 87 then -1 else g i := by
  intro n
  induction n with
  | zero => intro k g i h1 h2; omega
  | succ n ih =>
    intro k g i h1 h2
    rw [lp_cl2]
    by_cases c1 : (80 : Int32) ≤ nI k
    · rw [if_pos c1]
      have hk : k = 80 := by
        have := (nI_leI (a := 80) (by omega) (by omega)).mp c1
        omega
      simp only [upd]
      repeat' split
      all_goals first | rfl | omega
    · rw [if_neg c1]
      have hlt : k < 80 := kN (B := 80) c1 (by omega) (by omega)
      rw [ih (k + 1) _ i (by omega) (by omega)]
      by_cases e : i = 7 + k
      · subst e
        rw [pk_us]
        repeat' split
        all_goals first | rfl | omega
      · rw [pk_un e]
        repeat' split
        all_goals first | rfl | omega
theorem cl1_at : ∀ (n k : Nat) (g : Rw) (i : Nat), k ≤ 327 → k + n = 328 → (∀ u, u < k → g u = 0) → i < 327 → lp_cl1 n k g i = if i = 6 then 1 else if i = 4 then 5 else if i = 3 then 1 else if 7 ≤ i ∧ i < 87 then -1 else 0 := by
  intro n
  induction n with
  | zero => intro k g i h1 h2; omega
  | succ n ih =>
    intro k g i h1 h2 h3 hi
    rw [lp_cl1]
    by_cases c1 : (327 : Int32) ≤ nI k
    · rw [if_pos c1]
      have hk : k = 327 := by
        have := (nI_leI (a := 327) (by omega) (by omega)).mp c1
        omega
      rw [cl2_at _ 0 g i (by omega) (by omega), h3 i (by omega)]
      repeat' split
      all_goals first | rfl | omega
    · rw [if_neg c1]
      have hlt : k < 327 := kN (B := 327) c1 (by omega) (by omega)
      refine ih (k + 1) _ i (by omega) (by omega) (fun u hu => ?_) hi
      by_cases e : u = k
      · rw [e, pk_us]
      · rw [pk_un e]
        exact h3 u (by omega)
theorem clr_at (g : Rw) {i : Nat} (hi : i < 327) : h_X7_clear g i = if i = 6 then 1 else if i = 4 then 5 else if i = 3 then 1 else if 7 ≤ i ∧ i < 87 then -1 else 0 := cl1_at _ 0 g i (by omega) (by omega) (fun u hu => by omega) hi
theorem RI_clear (g : Rw) : RI (h_X7_clear g) := by
  have e0 : h_X7_clear g 0 = 0 := by rw [clr_at g (by omega)]; rfl
  refine ⟨⟨0, by omega, e0⟩, ⟨1, by omega, by rw [clr_at g (by omega)]; rfl⟩, fun c hc => ?_⟩
  rw [gm, e0, show (0 : Int32).toNatClampNeg = 0 from rfl] at hc
  omega
theorem txt_TI {M : Mo} {g : Rw} (hz : mZ M = nI (zz M) ∧ zz M ≤ 120) (h0 : ¬ mZ M = 0) : TI (oS (oS (oO (oR M g) 0) 0) 1) := by
  have e : sp (oS (oS (oO (oR M g) 0) 0) 1) = 1 := rfl
  have e2 : zz (oS (oS (oO (oR M g) 0) 0) 1) = zz M := rfl
  have h1 : zz M ≠ 0 := fun z => h0 (by rw [hz.1, z]; rfl)
  refine ⟨by rw [e2]; exact hz.1, by rw [e2]; exact hz.2, by rw [e]; rfl, by rw [e, e2]; omega⟩

def lp_rText  : Nat → Mo → Int32 × Mo
  | 0, M2 => (-1, M2)
  | n + 1, M2 => if (mZ M2) ≤ (mS M2) then ((-1), M2) else
    if ((h_X7_readCommand M2).1) = 0 then (mS ((h_X7_readCommand M2).2), (h_X7_readCommand M2).2) else
    lp_rText n ((h_X7_readCommand M2).2)
def h_X7_readText (M : Mo) : Int32 × Mo :=
  if (mZ (oS (oO (oR M (h_X7_clear (mR M))) 0) 0)) = 0 then (0, (oS (oO (oR M (h_X7_clear (mR M))) 0) 0)) else
  if ((mT (oS (oO (oR M (h_X7_clear (mR M))) 0) 0)) 0) = 83 then lp_rText 122 (oS (oS (oO (oR M (h_X7_clear (mR M))) 0) 0) 1) else
  (0, (oS (oO (oR M (h_X7_clear (mR M))) 0) 0))
theorem txt_RI : ∀ (n : Nat) (M2 : Mo), TI M2 → RI (mR M2) → RI (mR (lp_rText n M2).2) := by
  intro n
  induction n with
  | zero => intro M2 _ h; exact h
  | succ n ih =>
    intro M2 hT h
    rw [lp_rText]
    by_cases c1 : mZ M2 ≤ mS M2
    · rw [if_pos c1]
      exact h
    · rw [if_neg c1]
      have hc := cmd_ok hT (hT.lt c1) h
      by_cases c2 : (h_X7_readCommand M2).1 = 0
      · first | rw [if_pos c2] | rw [if_neg (fun z => z c2)]
        exact hc
      · first | rw [if_neg c2] | rw [if_pos c2]
        exact ih _ (cmd_TI hT (hT.lt c1) c2).1 hc
set_option maxRecDepth 100000 in
theorem text_RI {M : Mo} (hZ0 : mZ M = nI (zz M) ∧ zz M ≤ 120) : RI (mR (h_X7_readText M).2) := by
  have r0 : RI (mR (oS (oO (oR M (h_X7_clear (mR M))) 0) 0)) := by
    rw [mR_oS, mR_oO, mR_oR]
    exact RI_clear _
  have r1 : RI (mR (oS (oS (oO (oR M (h_X7_clear (mR M))) 0) 0) 1)) := by
    rw [mR_oS]
    exact r0
  rw [h_X7_readText]
  by_cases q1 : (mZ (oS (oO (oR M (h_X7_clear (mR M))) 0) 0)) = 0
  · rw [if_pos q1]
    exact r0
  · rw [if_neg q1]
    by_cases q2 : ((mT (oS (oO (oR M (h_X7_clear (mR M))) 0) 0)) 0) = 83
    · rw [if_pos q2]
      exact txt_RI _ _ (txt_TI hZ0 q1) r1
    · rw [if_neg q2]
      exact r0

def h_X7_errorPosition (M : Mo) : Int32 × Mo :=
  ((h_X7_readText (oA M 0)).1, (h_X7_readText (oA M 0)).2)
def h_X7_load (M : Mo) : Int32 × Mo :=
  if ((h_X7_readText M).1) = (-1) then (mO (oI (oI (oC (oN ((h_X7_refused ((h_X7_readText M).2) 0).2) (h_X7_copyState (mR ((h_X7_refused ((h_X7_readText M).2) 0).2)) (mN ((h_X7_refused ((h_X7_readText M).2) 0).2)) 0 0)) 0) (upd (mI (oC (oN ((h_X7_refused ((h_X7_readText M).2) 0).2) (h_X7_copyState (mR ((h_X7_refused ((h_X7_readText M).2) 0).2)) (mN ((h_X7_refused ((h_X7_readText M).2) 0).2)) 0 0)) 0)) (0 : Int32).toNatClampNeg (vp_nar .boolean 0))) (upd (mI (oI (oC (oN ((h_X7_refused ((h_X7_readText M).2) 0).2) (h_X7_copyState (mR ((h_X7_refused ((h_X7_readText M).2) 0).2)) (mN ((h_X7_refused ((h_X7_readText M).2) 0).2)) 0 0)) 0) (upd (mI (oC (oN ((h_X7_refused ((h_X7_readText M).2) 0).2) (h_X7_copyState (mR ((h_X7_refused ((h_X7_readText M).2) 0).2)) (mN ((h_X7_refused ((h_X7_readText M).2) 0).2)) 0 0)) 0)) (0 : Int32).toNatClampNeg (vp_nar .boolean 0)))) (1 : Int32).toNatClampNeg (vp_nar .boolean 0))), (oI (oI (oC (oN ((h_X7_refused ((h_X7_readText M).2) 0).2) (h_X7_copyState (mR ((h_X7_refused ((h_X7_readText M).2) 0).2)) (mN ((h_X7_refused ((h_X7_readText M).2) 0).2)) 0 0)) 0) (upd (mI (oC (oN ((h_X7_refused ((h_X7_readText M).2) 0).2) (h_X7_copyState (mR ((h_X7_refused ((h_X7_readText M).2) 0).2)) (mN ((h_X7_refused ((h_X7_readText M).2) 0).2)) 0 0)) 0)) (0 : Int32).toNatClampNeg (vp_nar .boolean 0))) (upd (mI (oI (oC (oN ((h_X7_refused ((h_X7_readText M).2) 0).2) (h_X7_copyState (mR ((h_X7_refused ((h_X7_readText M).2) 0).2)) (mN ((h_X7_refused ((h_X7_readText M).2) 0).2)) 0 0)) 0) (upd (mI (oC (oN ((h_X7_refused ((h_X7_readText M).2) 0).2) (h_X7_copyState (mR ((h_X7_refused ((h_X7_readText M).2) 0).2)) (mN ((h_X7_refused ((h_X7_readText M).2) 0).2)) 0 0)) 0)) (0 : Int32).toNatClampNeg (vp_nar .boolean 0)))) (1 : Int32).toNatClampNeg (vp_nar .boolean 0)))) else
  (0, (h_X7_refused ((h_X7_readText M).2) 1).2)
