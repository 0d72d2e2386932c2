theorem sk_longest (S : St)  (acc : Int32) (ha : (0 : Int32) ≤ acc) (j : Nat) : ∀ (d : Nat), j + d ≤ 80 → (∀ i, j ≤ i → i < j + d → sG S i = 0) → lp_longest S  (81 - j) j acc = lp_longest S  (81 - (j + d)) (j + d) acc := by
  intro d
  induction d with
  | zero => intro _ _; rfl
  | succ d ih =>
    intro hd hz
    rw [ih (by omega) (fun i a b => hz i a (by omega)), show 81 - (j + d) = (81 - (j + (d + 1))) + 1 by omega, lp_longest, if_neg (s80 (show j + d < 80 by omega)), hz (j + d) (by omega) (by omega), if_pos ha]
    try rfl
theorem to_longest {S : St}  {acc : Int32} (ha : (0 : Int32) ≤ acc) {j e : Nat} (hje : j ≤ e) (he : e ≤ 80) (hz : ∀ i, j ≤ i → i < e → sG S i = 0) : lp_longest S  (81 - j) j acc = lp_longest S  (81 - e) e acc := by
  have h := sk_longest S  acc ha j (e - j) (by omega) (fun i a b => hz i a (by omega))
  rw [show j + (e - j) = e by omega] at h
  exact h
theorem sk_gapCount (S : St)  (acc : Int32)  (j : Nat) : ∀ (d : Nat), j + d ≤ 80 → (∀ i, j ≤ i → i < j + d → sG S i = 0) → lp_gapCount S  (81 - j) j acc = lp_gapCount S  (81 - (j + d)) (j + d) acc := by
  intro d
  induction d with
  | zero => intro _ _; rfl
  | succ d ih =>
    intro hd hz
    rw [ih (by omega) (fun i a b => hz i a (by omega)), show 81 - (j + d) = (81 - (j + (d + 1))) + 1 by omega, lp_gapCount, if_neg (s80 (show j + d < 80 by omega)), hz (j + d) (by omega) (by omega), if_pos (Int32.le_refl 0)]
    try rfl
theorem to_gapCount {S : St}  {acc : Int32}  {j e : Nat} (hje : j ≤ e) (he : e ≤ 80) (hz : ∀ i, j ≤ i → i < e → sG S i = 0) : lp_gapCount S  (81 - j) j acc = lp_gapCount S  (81 - e) e acc := by
  have h := sk_gapCount S  acc  j (e - j) (by omega) (fun i a b => hz i a (by omega))
  rw [show j + (e - j) = e by omega] at h
  exact h
theorem sk_gapStart (S : St) (kk : Int32) (acc : Int32)  (j : Nat) : ∀ (d : Nat), j + d ≤ 80 → (∀ i, j ≤ i → i < j + d → sG S i = 0) → lp_gapStart S kk (81 - j) j acc = lp_gapStart S kk (81 - (j + d)) (j + d) acc := by
  intro d
  induction d with
  | zero => intro _ _; rfl
  | succ d ih =>
    intro hd hz
    rw [ih (by omega) (fun i a b => hz i a (by omega)), show 81 - (j + d) = (81 - (j + (d + 1))) + 1 by omega, lp_gapStart, if_neg (s80 (show j + d < 80 by omega)), hz (j + d) (by omega) (by omega), if_pos (Int32.le_refl 0)]
    try rfl
theorem to_gapStart {S : St} {kk : Int32} {acc : Int32}  {j e : Nat} (hje : j ≤ e) (he : e ≤ 80) (hz : ∀ i, j ≤ i → i < e → sG S i = 0) : lp_gapStart S kk (81 - j) j acc = lp_gapStart S kk (81 - e) e acc := by
  have h := sk_gapStart S kk acc  j (e - j) (by omega) (fun i a b => hz i a (by omega))
  rw [show j + (e - j) = e by omega] at h
  exact h
theorem sk_lowest (S : St) (len : Int32)  (h0 : (0 : Int32) < len + sO S) (j : Nat) : ∀ (d : Nat), j + d ≤ 80 → (∀ i, j ≤ i → i < j + d → sG S i = 0) → lp_lowest S len (81 - j) j  = lp_lowest S len (81 - (j + d)) (j + d)  := by
  intro d
  induction d with
  | zero => intro _ _; rfl
  | succ d ih =>
    intro hd hz
    rw [ih (by omega) (fun i a b => hz i a (by omega)), show 81 - (j + d) = (81 - (j + (d + 1))) + 1 by omega, lp_lowest, if_neg (s80 (show j + d < 80 by omega)), hz (j + d) (by omega) (by omega), if_pos h0]
    try rfl
theorem to_lowest {S : St} {len : Int32}  (h0 : (0 : Int32) < len + sO S) {j e : Nat} (hje : j ≤ e) (he : e ≤ 80) (hz : ∀ i, j ≤ i → i < e → sG S i = 0) : lp_lowest S len (81 - j) j  = lp_lowest S len (81 - e) e  := by
  have h := sk_lowest S len  h0 j (e - j) (by omega) (fun i a b => hz i a (by omega))
  rw [show j + (e - j) = e by omega] at h
  exact h
theorem sk_shortest (S : St) (len : Int32) (best : Int32) (size : Int32) (h0 : (0 : Int32) < len + sO S) (j : Nat) : ∀ (d : Nat), j + d ≤ 80 → (∀ i, j ≤ i → i < j + d → sG S i = 0) → lp_shortest S len (81 - j) j best size = lp_shortest S len (81 - (j + d)) (j + d) best size := by
  intro d
  induction d with
  | zero => intro _ _; rfl
  | succ d ih =>
    intro hd hz
    rw [ih (by omega) (fun i a b => hz i a (by omega)), show 81 - (j + d) = (81 - (j + (d + 1))) + 1 by omega, lp_shortest, if_neg (s80 (show j + d < 80 by omega)), hz (j + d) (by omega) (by omega), if_pos h0]
    try rfl
theorem to_shortest {S : St} {len : Int32} {best : Int32} {size : Int32} (h0 : (0 : Int32) < len + sO S) {j e : Nat} (hje : j ≤ e) (he : e ≤ 80) (hz : ∀ i, j ≤ i → i < e → sG S i = 0) : lp_shortest S len (81 - j) j best size = lp_shortest S len (81 - e) e best size := by
  have h := sk_shortest S len best size h0 j (e - j) (by omega) (fun i a b => hz i a (by omega))
  rw [show j + (e - j) = e by omega] at h
  exact h
theorem sk_places (S : St) (len : Int32) (dr : Int64) (acc : Int32) (h0 : (0 : Int32) < len + sO S) (j : Nat) : ∀ (d : Nat), j + d ≤ 80 → (∀ i, j ≤ i → i < j + d → sG S i = 0) → lp_places S len dr (81 - j) j acc = lp_places S len dr (81 - (j + d)) (j + d) acc := by
  intro d
  induction d with
  | zero => intro _ _; rfl
  | succ d ih =>
    intro hd hz
    rw [ih (by omega) (fun i a b => hz i a (by omega)), show 81 - (j + d) = (81 - (j + (d + 1))) + 1 by omega, lp_places, if_neg (s80 (show j + d < 80 by omega)), hz (j + d) (by omega) (by omega), if_pos h0]
    try rfl
theorem to_places {S : St} {len : Int32} {dr : Int64} {acc : Int32} (h0 : (0 : Int32) < len + sO S) {j e : Nat} (hje : j ≤ e) (he : e ≤ 80) (hz : ∀ i, j ≤ i → i < e → sG S i = 0) : lp_places S len dr (81 - j) j acc = lp_places S len dr (81 - e) e acc := by
  have h := sk_places S len dr acc h0 j (e - j) (by omega) (fun i a b => hz i a (by omega))
  rw [show j + (e - j) = e by omega] at h
  exact h
theorem sk_pick (S : St) (len : Int32) (num : Int32) (h0 : (0 : Int32) < len + sO S) (hn : (0 : Int32) ≤ num) (j : Nat) : ∀ (d : Nat), j + d ≤ 80 → (∀ i, j ≤ i → i < j + d → sG S i = 0) → lp_pick S len (81 - j) j num = lp_pick S len (81 - (j + d)) (j + d) num := by
  intro d
  induction d with
  | zero => intro _ _; rfl
  | succ d ih =>
    intro hd hz
    rw [ih (by omega) (fun i a b => hz i a (by omega)), show 81 - (j + d) = (81 - (j + (d + 1))) + 1 by omega, lp_pick, if_neg (s80 (show j + d < 80 by omega)), hz (j + d) (by omega) (by omega), if_pos h0, if_pos hn, Int32.sub_zero]
    try rfl
theorem to_pick {S : St} {len : Int32} {num : Int32} (h0 : (0 : Int32) < len + sO S) (hn : (0 : Int32) ≤ num) {j e : Nat} (hje : j ≤ e) (he : e ≤ 80) (hz : ∀ i, j ≤ i → i < e → sG S i = 0) : lp_pick S len (81 - j) j num = lp_pick S len (81 - e) e num := by
  have h := sk_pick S len num h0 hn j (e - j) (by omega) (fun i a b => hz i a (by omega))
  rw [show j + (e - j) = e by omega] at h
  exact h
theorem sk_fit (S : St) (len : Int32) (acc : Int32) (h0 : (0 : Int32) < len + sO S) (hl : ¬ len ≤ 0) (j : Nat) : ∀ (d : Nat), j + d ≤ 80 → (∀ i, j ≤ i → i < j + d → sG S i = 0) → lp_fit S len (81 - j) j acc = lp_fit S len (81 - (j + d)) (j + d) acc := by
  intro d
  induction d with
  | zero => intro _ _; rfl
  | succ d ih =>
    intro hd hz
    rw [ih (by omega) (fun i a b => hz i a (by omega)), show 81 - (j + d) = (81 - (j + (d + 1))) + 1 by omega, lp_fit, if_neg (s80 (show j + d < 80 by omega)), if_neg hl, hz (j + d) (by omega) (by omega), if_pos h0]
    try rfl
theorem to_fit {S : St} {len : Int32} {acc : Int32} (h0 : (0 : Int32) < len + sO S) (hl : ¬ len ≤ 0) {j e : Nat} (hje : j ≤ e) (he : e ≤ 80) (hz : ∀ i, j ≤ i → i < e → sG S i = 0) : lp_fit S len (81 - j) j acc = lp_fit S len (81 - e) e acc := by
  have h := sk_fit S len acc h0 hl j (e - j) (by omega) (fun i a b => hz i a (by omega))
  rw [show j + (e - j) = e by omega] at h
  exact h
