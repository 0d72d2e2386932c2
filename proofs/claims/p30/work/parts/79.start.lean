def mdZ : Mo := (0, zR, 0, zR, zR, zR, zR, 0, zR, zR, 0, 0)
def md1 : Mo := oN mdZ (h_X7_clear zR)
theorem fillA_at (w : Nat) (v : Int32) (hw : w < 2 ^ 31) : ∀ (n k : Nat) (f : Rw) (x : Nat), k ≤ w → w < k + n → lp_fillA w v n k f x = if k ≤ x ∧ x < w then v else f x := by
  intro n
  induction n with
  | zero => intro k f x h1 h2; omega
  | succ n ih =>
    intro k f x h1 h2
    rw [lp_fillA]
    by_cases c : nI w ≤ nI k
    · rw [if_pos c, if_neg]
      rw [nI_leI hw (by omega)] at c
      omega
    · rw [if_neg c]
      rw [nI_leI hw (by omega)] at c
      rw [ih _ _ _ (by omega) (by omega)]
      by_cases e : k + 1 ≤ x ∧ x < w
      · rw [if_pos e, if_pos (by omega)]
      · rw [if_neg e]
        by_cases u : x = k
        · rw [u, pk_us, if_pos (by omega)]
        · rw [pk_un u, if_neg (by omega)]
set_option maxRecDepth 100000 in
theorem new_RS (S : St) (g : Rw) : RS (h_X4_makeNew S) (h_X7_clear g) := by
  have hF : ∀ x, x < 80 → h_X7_clear g (7 + x) = sC (wC S (h_J7_fill_53178 80 (sC S) (-1))) x := fun x hx => by
    show _ = h_J7_fill_53178 80 (sC S) (-1) x
    rw [h_J7_fill_53178, fillA_at 80 (-1) (by omega) _ _ _ _ (by omega) (by omega), if_pos ⟨Nat.zero_le _, hx⟩, clr_at g (by omega), if_neg (by omega), if_neg (by omega), if_neg (by omega), if_pos (by omega)]
  have f := findGaps_ok (wC S (h_J7_fill_53178 80 (sC S) (-1))) hF
  have c0 : h_X7_clear g 0 = 0 := by rw [clr_at g (by omega)]; rfl
  have c1 : h_X7_clear g 1 = 0 := by rw [clr_at g (by omega)]; rfl
  have c2 : h_X7_clear g 2 = 0 := by rw [clr_at g (by omega)]; rfl
  have c3 : h_X7_clear g 3 = 1 := by rw [clr_at g (by omega)]; rfl
  have c4 : h_X7_clear g 4 = 5 := by rw [clr_at g (by omega)]; rfl
  have c5 : h_X7_clear g 5 = 0 := by rw [clr_at g (by omega)]; rfl
  have c6 : h_X7_clear g 6 = 1 := by rw [clr_at g (by omega)]; rfl
  have cc : ∀ y, y < 80 → h_X7_clear g (7 + y) = -1 := fun y hy => by rw [clr_at g (by omega), if_neg (by omega), if_neg (by omega), if_neg (by omega), if_pos (by omega)]
  have ri := RI_clear g
  have eC : sC (h_X4_findGaps (wC S (h_J7_fill_53178 80 (sC S) (-1)))) = h_J7_fill_53178 80 (sC S) (-1) := by
    rw [f.1]
    rfl
  have hC : ∀ x, x < 80 → h_X7_clear g (7 + x) = sC (h_X4_findGaps (wC S (h_J7_fill_53178 80 (sC S) (-1)))) x := fun x hx => by
    rw [eC]
    exact hF x hx
  have fG := f.2
  rw [h_X4_makeNew]
  generalize h_X4_findGaps (wC S (h_J7_fill_53178 80 (sC S) (-1))) = T at hC fG ⊢
  generalize h_X7_clear g = G at c0 c1 c2 c3 c4 c5 c6 cc ri hC fG ⊢
  have eg : gm G = 0 := by rw [gm, c0]; rfl
  refine ⟨⟨⟨c0, c1, c2, c3, c4, ?_⟩, hC, fun c hc => by omega, fG⟩, ⟨ri, ⟨⟨0, by omega, c2⟩, 5, ⟨by omega, by omega⟩, c4⟩, fun c hc => by omega, fun y hy => Or.inl (cc y hy), fun c hc => by omega⟩⟩
  rw [f_X7_chance, c5, c6]
  show _ = (1 : Int64)
  decide +kernel
set_option maxRecDepth 100000 in
theorem o_start : RelX cx1 md1 := by
  refine ⟨rfl, show 0 ≤ 120 by omega, ⟨rfl, fun i hi => ?_⟩, new_RS stZ zR, show 0 < 14 by omega, show 0 ≤ 14 by omega, rfl, fun i hi => ?_, fun j hj => ⟨rfl, fun z => absurd rfl z⟩⟩
  · have : i < 0 := hi
    omega
  · have : i < 0 := hi
    omega
