theorem RI_oR {M : Mo} {g : Rw} (h : RI g) : RI (mR (oR M g)) := h
theorem RI_oRN {M : Mo} {g : Rw} (h : RI (mN M)) : RI (mN (oR M g)) := h
theorem RI_cmv {g : Rw} {c x : Nat} (h : RI g) (hc : c < 2 ^ 31) (hi : ¬ f_X7_isCar g (nI c) = 0) (hx : x < 2 ^ 31) (hxc : ¬ f_X7_isCell (nI x) = 0) (hm : ¬ f_X7_canMove g c x = 0) : RI (h_X7_moveOn g c x).2 := by
  have q := mv_ok h (Nat.lt_of_lt_of_le (car_lt h hc hi) h.m.2) (cell_lt hx hxc) hm
  exact RI_moveOn h q.1 q.2.1 q.2.2
theorem RI_cst {g : Rw} {w : Nat} {v : Int32} (h : RI g) (hw : w < 2 ^ 31) (hs : ¬ f_X7_isSetting (nI w) v = 0) : RI (h_X7_change g w v).2 := RI_chg h (set_lt hw hs) v (fun z => set_room hs z)
theorem RI_gst {g : Rw} {c : Nat} {sta : Int32} (h : RI g) (hc : c < 2 ^ 31) (hp : ¬ f_X7_isParked g (nI c) = 0) (hs : sta ≠ 0) : RI (h_X7_goes g c sta).2 := RI_goes h (RI.P h hc hp).2.2.2 hs
theorem RI_hst {g : Rw} {x : Nat} {on on' : Int32} (h : RI g) (hx : x < 2 ^ 31) (hc : ¬ f_X7_canHydrant g (nI x) on = 0) : RI (h_X7_hydrantOn g x on').2 := RI_hyd h (hyd_lt hx hc) _

set_option maxHeartbeats 4000000 in
theorem RI_turn {g : Rw} (h : RI g) (how : Int32) {q : Nat} (hq : q < 2 ^ 28) : RI (h_X7_turnOf g how q) := by
  rw [h_X7_turnOf]
  by_cases q1 : 3 ≤ how
  · rw [if_pos q1]
    by_cases q2 : how = 3
    · rw [if_pos q2]
      by_cases q3 : (f_X7_isParked g (nI (q % 40))) = 0
      · rw [if_pos q3]
        exact h
      · rw [if_neg q3]
        exact RI_gst h (by omega) (by assumption) (by decide)
    · rw [if_neg q2]
      by_cases q4 : how = 4
      · rw [if_pos q4]
        by_cases q5 : (nI ((q / 128) % 3)) = 0
        · rw [if_pos q5]
          by_cases q6 : (f_X7_canHydrant g (nI (q % 80)) 0) = 0
          · rw [if_pos q6]
            exact h
          · rw [if_neg q6]
            exact RI_hyd h (by omega) _
        · rw [if_neg q5]
          by_cases q7 : (f_X7_canHydrant g (nI (q % 80)) 1) = 0
          · rw [if_pos q7]
            exact h
          · rw [if_neg q7]
            exact RI_hyd h (by omega) _
      · rw [if_neg q4]
        by_cases q8 : how ≤ 5
        · rw [if_pos q8]
          by_cases q9 : (nI ((q / 4) % 2)) = 0
          · rw [if_pos q9]
            exact RI_chg h (by omega) _ (fun z => absurd z (by decide))
          · rw [if_neg q9]
            exact RI_chg h (by omega) _ (fun _ => ⟨q / 8 % 5, by omega, rfl⟩)
        · rw [if_neg q8]
          exact RI_mins h _
  · rw [if_neg q1]
    by_cases q10 : 40 ≤ (g 0)
    · rw [if_pos q10]
      exact h
    · rw [if_neg q10]
      exact RI_come h (gm40 h (by assumption)) ⟨2 + q % 7, by omega, by omega, rfl⟩
set_option maxHeartbeats 4000000 in
theorem RI_command {M : Mo} (h : RI (mR M)) (how : Int32) {q : Nat} (hq : q < 100000) : RI (mR (h_X7_command M how q).2) := by
  rw [h_X7_command]
  by_cases q1 : how = 1
  · rw [if_pos q1]
    by_cases q2 : 2 ≤ (nI (q % 100))
    · rw [if_pos q2]
      exact h
    · rw [if_neg q2]
      by_cases q3 : (f_X7_isLength (nI (q / 10000))) = 0
      · rw [if_pos q3]
        exact h
      · rw [if_neg q3]
        by_cases q4 : (f_X7_in ((nI ((q / 100) % 100)).toInt64) 1 99) = 0
        · rw [if_pos q4]
          exact h
        · rw [if_neg q4]
          by_cases q5 : 40 ≤ ((mR M) 0)
          · rw [if_pos q5]
            exact h
          · rw [if_neg q5]
            by_cases q6 : (nI (q % 100)) = 1
            · rw [if_pos q6]
              by_cases q7 : (f_X7_isParked (mR (oR M ((h_X7_comeOn (mR M) (nI (q / 10000)) (nI ((q / 100) % 100))).2))) ((h_X7_comeOn (mR M) (nI (q / 10000)) (nI ((q / 100) % 100))).1)) = 1
              · rw [if_pos q7]
                exact RI_oR (RI_come h (gm40 h (by assumption)) (len_2e (by assumption)))
              · rw [if_neg q7]
                exact RI_oR (RI_come h (gm40 h (by assumption)) (len_2e (by assumption)))
            · rw [if_neg q6]
              by_cases q8 : (f_X7_isParked (mR (oR M ((h_X7_comeOn (mR M) (nI (q / 10000)) (nI ((q / 100) % 100))).2))) ((h_X7_comeOn (mR M) (nI (q / 10000)) (nI ((q / 100) % 100))).1)) = 0
              · rw [if_pos q8]
                exact RI_oR (RI_come h (gm40 h (by assumption)) (len_2e (by assumption)))
              · rw [if_neg q8]
                exact RI_oR (RI_come h (gm40 h (by assumption)) (len_2e (by assumption)))
  · rw [if_neg q1]
    by_cases q9 : how = 2
    · rw [if_pos q9]
      by_cases q10 : (nI (q % 1000)) = 0
      · rw [if_pos q10]
        by_cases q11 : (f_X7_isParked (mR M) (nI (q / 1000))) = 0
        · rw [if_pos q11]
          exact h
        · rw [if_neg q11]
          by_cases q12 : ((h_X7_goes (mR M) (q / 1000) 2).1) < 0
          · rw [if_pos q12]
            exact RI_oR (RI_gst h (by omega) (by assumption) (by decide))
          · rw [if_neg q12]
            exact RI_oR (RI_gst h (by omega) (by assumption) (by decide))
      · rw [if_neg q10]
        exact h
    · rw [if_neg q9]
      by_cases q13 : how = 3
      · rw [if_pos q13]
        by_cases q14 : (nI (q % 10)) = 0
        · rw [if_pos q14]
          by_cases q15 : (f_X7_isCar (mR M) (nI (q / 1000))) = 0
          · rw [if_pos q15]
            exact h
          · rw [if_neg q15]
            by_cases q16 : (f_X7_isCell (nI ((q / 10) % 100))) = 0
            · rw [if_pos q16]
              exact h
            · rw [if_neg q16]
              by_cases q17 : (f_X7_canMove (mR M) (q / 1000) ((q / 10) % 100)) = 0
              · rw [if_pos q17]
                exact h
              · rw [if_neg q17]
                by_cases q18 : ((h_X7_moveOn (mR M) (q / 1000) ((q / 10) % 100)).1) < 0
                · rw [if_pos q18]
                  exact RI_oR (RI_cmv h (by omega) (by assumption) (by omega) (by assumption) (by assumption))
                · rw [if_neg q18]
                  exact RI_oR (RI_cmv h (by omega) (by assumption) (by omega) (by assumption) (by assumption))
        · rw [if_neg q14]
          exact h
      · rw [if_neg q13]
        by_cases q19 : how = 4
        · rw [if_pos q19]
          by_cases q20 : (f_X7_in ((nI q).toInt64) 1 60) = 0
          · rw [if_pos q20]
            exact h
          · rw [if_neg q20]
            by_cases q21 : ((h_X7_minutesOn (mR M) (nI q)).1) < 0
            · rw [if_pos q21]
              exact RI_oR (RI_mins h _)
            · rw [if_neg q21]
              exact RI_oR (RI_mins h _)
        · rw [if_neg q19]
          by_cases q22 : how = 5
          · rw [if_pos q22]
            by_cases q23 : (nI ((q / 1000) % 10)) = 0
            · rw [if_pos q23]
              by_cases q24 : (nI (q % 10)) = 0
              · rw [if_pos q24]
                by_cases q25 : (f_X7_isSetting (nI (q / 10000)) (nI ((q / 10) % 100))) = 0
                · rw [if_pos q25]
                  exact h
                · rw [if_neg q25]
                  by_cases q26 : ((h_X7_change (mR M) (q / 10000) (nI ((q / 10) % 100))).1) < 0
                  · rw [if_pos q26]
                    exact RI_oR (RI_cst h (by omega) (by assumption))
                  · rw [if_neg q26]
                    exact RI_oR (RI_cst h (by omega) (by assumption))
              · rw [if_neg q24]
                exact h
            · rw [if_neg q23]
              exact h
          · rw [if_neg q22]
            by_cases q27 : how = 6
            · rw [if_pos q27]
              by_cases q28 : 2 ≤ (nI (q % 1000))
              · rw [if_pos q28]
                exact h
              · rw [if_neg q28]
                by_cases q29 : (nI (q % 1000)) = 1
                · rw [if_pos q29]
                  by_cases q30 : (f_X7_canHydrant (mR M) (nI (q / 1000)) 1) = 0
                  · rw [if_pos q30]
                    exact h
                  · rw [if_neg q30]
                    by_cases q31 : ((h_X7_hydrantOn (mR M) (q / 1000) 1).1) < 0
                    · rw [if_pos q31]
                      exact RI_oR (RI_hst (x := q / 1000) h (by omega) (by assumption))
                    · rw [if_neg q31]
                      exact RI_oR (RI_hst (x := q / 1000) h (by omega) (by assumption))
                · rw [if_neg q29]
                  by_cases q32 : (f_X7_canHydrant (mR M) (nI (q / 1000)) 0) = 0
                  · rw [if_pos q32]
                    exact h
                  · rw [if_neg q32]
                    by_cases q33 : ((h_X7_hydrantOn (mR M) (q / 1000) 0).1) < 0
                    · rw [if_pos q33]
                      exact RI_oR (RI_hst (x := q / 1000) h (by omega) (by assumption))
                    · rw [if_neg q33]
                      exact RI_oR (RI_hst (x := q / 1000) h (by omega) (by assumption))
            · rw [if_neg q27]
              by_cases q34 : how = 7
              · rw [if_pos q34]
                by_cases q35 : 10 ≤ (nI (q % 10000))
                · rw [if_pos q35]
                  exact h
                · rw [if_neg q35]
                  by_cases q36 : (f_X7_isLength (nI (q / 10000))) = 0
                  · rw [if_pos q36]
                    exact h
                  · rw [if_neg q36]
                    by_cases q37 : (f_X7_reason (mR M) (nI (q / 10000))) = (nI (q % 10))
                    · rw [if_pos q37]
                      exact h
                    · rw [if_neg q37]
                      exact h
              · rw [if_neg q34]
                by_cases q38 : how = 8
                · rw [if_pos q38]
                  by_cases q39 : 10 ≤ (nI (q % 1000))
                  · rw [if_pos q39]
                    exact h
                  · rw [if_neg q39]
                    by_cases q40 : (f_X7_isCar (mR M) (nI (q / 1000))) = 0
                    · rw [if_pos q40]
                      exact h
                    · rw [if_neg q40]
                      by_cases q41 : (f_X7_of (mR M) (q / 1000) 2) = (nI (q % 10))
                      · rw [if_pos q41]
                        exact h
                      · rw [if_neg q41]
                        exact h
                · rw [if_neg q38]
                  by_cases q42 : how = 9
                  · rw [if_pos q42]
                    by_cases q43 : 100 ≤ (nI (q % 10000))
                    · rw [if_pos q43]
                      exact h
                    · rw [if_neg q43]
                      by_cases q44 : (f_X7_isLength (nI (q / 10000))) = 0
                      · rw [if_pos q44]
                        exact h
                      · rw [if_neg q44]
                        by_cases q45 : (f_X7_fitsIn (mR M) (nI (q / 10000))) < (nI (q % 100))
                        · rw [if_pos q45]
                          exact h
                        · rw [if_neg q45]
                          exact h
                  · rw [if_neg q42]
                    exact h
set_option maxHeartbeats 4000000 in
theorem com_N (M : Mo) (how : Int32) (q : Nat) : mN (h_X7_command M how q).2 = mN M := by
  rw [h_X7_command]
  by_cases q1 : how = 1
  · rw [if_pos q1]
    by_cases q2 : 2 ≤ (nI (q % 100))
    · rw [if_pos q2]
      try rfl
    · rw [if_neg q2]
      by_cases q3 : (f_X7_isLength (nI (q / 10000))) = 0
      · rw [if_pos q3]
        try rfl
      · rw [if_neg q3]
        by_cases q4 : (f_X7_in ((nI ((q / 100) % 100)).toInt64) 1 99) = 0
        · rw [if_pos q4]
          try rfl
        · rw [if_neg q4]
          by_cases q5 : 40 ≤ ((mR M) 0)
          · rw [if_pos q5]
            try rfl
          · rw [if_neg q5]
            by_cases q6 : (nI (q % 100)) = 1
            · rw [if_pos q6]
              by_cases q7 : (f_X7_isParked (mR (oR M ((h_X7_comeOn (mR M) (nI (q / 10000)) (nI ((q / 100) % 100))).2))) ((h_X7_comeOn (mR M) (nI (q / 10000)) (nI ((q / 100) % 100))).1)) = 1
              · rw [if_pos q7]
                try rfl
              · rw [if_neg q7]
                try rfl
            · rw [if_neg q6]
              by_cases q8 : (f_X7_isParked (mR (oR M ((h_X7_comeOn (mR M) (nI (q / 10000)) (nI ((q / 100) % 100))).2))) ((h_X7_comeOn (mR M) (nI (q / 10000)) (nI ((q / 100) % 100))).1)) = 0
              · rw [if_pos q8]
                try rfl
              · rw [if_neg q8]
                try rfl
  · rw [if_neg q1]
    by_cases q9 : how = 2
    · rw [if_pos q9]
      by_cases q10 : (nI (q % 1000)) = 0
      · rw [if_pos q10]
        by_cases q11 : (f_X7_isParked (mR M) (nI (q / 1000))) = 0
        · rw [if_pos q11]
          try rfl
        · rw [if_neg q11]
          by_cases q12 : ((h_X7_goes (mR M) (q / 1000) 2).1) < 0
          · rw [if_pos q12]
            try rfl
          · rw [if_neg q12]
            try rfl
      · rw [if_neg q10]
        try rfl
    · rw [if_neg q9]
      by_cases q13 : how = 3
      · rw [if_pos q13]
        by_cases q14 : (nI (q % 10)) = 0
        · rw [if_pos q14]
          by_cases q15 : (f_X7_isCar (mR M) (nI (q / 1000))) = 0
          · rw [if_pos q15]
            try rfl
          · rw [if_neg q15]
            by_cases q16 : (f_X7_isCell (nI ((q / 10) % 100))) = 0
            · rw [if_pos q16]
              try rfl
            · rw [if_neg q16]
              by_cases q17 : (f_X7_canMove (mR M) (q / 1000) ((q / 10) % 100)) = 0
              · rw [if_pos q17]
                try rfl
              · rw [if_neg q17]
                by_cases q18 : ((h_X7_moveOn (mR M) (q / 1000) ((q / 10) % 100)).1) < 0
                · rw [if_pos q18]
                  try rfl
                · rw [if_neg q18]
                  try rfl
        · rw [if_neg q14]
          try rfl
      · rw [if_neg q13]
        by_cases q19 : how = 4
        · rw [if_pos q19]
          by_cases q20 : (f_X7_in ((nI q).toInt64) 1 60) = 0
          · rw [if_pos q20]
            try rfl
          · rw [if_neg q20]
            by_cases q21 : ((h_X7_minutesOn (mR M) (nI q)).1) < 0
            · rw [if_pos q21]
              try rfl
            · rw [if_neg q21]
              try rfl
        · rw [if_neg q19]
          by_cases q22 : how = 5
          · rw [if_pos q22]
            by_cases q23 : (nI ((q / 1000) % 10)) = 0
            · rw [if_pos q23]
              by_cases q24 : (nI (q % 10)) = 0
              · rw [if_pos q24]
                by_cases q25 : (f_X7_isSetting (nI (q / 10000)) (nI ((q / 10) % 100))) = 0
                · rw [if_pos q25]
                  try rfl
                · rw [if_neg q25]
                  by_cases q26 : ((h_X7_change (mR M) (q / 10000) (nI ((q / 10) % 100))).1) < 0
                  · rw [if_pos q26]
                    try rfl
                  · rw [if_neg q26]
                    try rfl
              · rw [if_neg q24]
                try rfl
            · rw [if_neg q23]
              try rfl
          · rw [if_neg q22]
            by_cases q27 : how = 6
            · rw [if_pos q27]
              by_cases q28 : 2 ≤ (nI (q % 1000))
              · rw [if_pos q28]
                try rfl
              · rw [if_neg q28]
                by_cases q29 : (nI (q % 1000)) = 1
                · rw [if_pos q29]
                  by_cases q30 : (f_X7_canHydrant (mR M) (nI (q / 1000)) 1) = 0
                  · rw [if_pos q30]
                    try rfl
                  · rw [if_neg q30]
                    by_cases q31 : ((h_X7_hydrantOn (mR M) (q / 1000) 1).1) < 0
                    · rw [if_pos q31]
                      try rfl
                    · rw [if_neg q31]
                      try rfl
                · rw [if_neg q29]
                  by_cases q32 : (f_X7_canHydrant (mR M) (nI (q / 1000)) 0) = 0
                  · rw [if_pos q32]
                    try rfl
                  · rw [if_neg q32]
                    by_cases q33 : ((h_X7_hydrantOn (mR M) (q / 1000) 0).1) < 0
                    · rw [if_pos q33]
                      try rfl
                    · rw [if_neg q33]
                      try rfl
            · rw [if_neg q27]
              by_cases q34 : how = 7
              · rw [if_pos q34]
                by_cases q35 : 10 ≤ (nI (q % 10000))
                · rw [if_pos q35]
                  try rfl
                · rw [if_neg q35]
                  by_cases q36 : (f_X7_isLength (nI (q / 10000))) = 0
                  · rw [if_pos q36]
                    try rfl
                  · rw [if_neg q36]
                    by_cases q37 : (f_X7_reason (mR M) (nI (q / 10000))) = (nI (q % 10))
                    · rw [if_pos q37]
                      try rfl
                    · rw [if_neg q37]
                      try rfl
              · rw [if_neg q34]
                by_cases q38 : how = 8
                · rw [if_pos q38]
                  by_cases q39 : 10 ≤ (nI (q % 1000))
                  · rw [if_pos q39]
                    try rfl
                  · rw [if_neg q39]
                    by_cases q40 : (f_X7_isCar (mR M) (nI (q / 1000))) = 0
                    · rw [if_pos q40]
                      try rfl
                    · rw [if_neg q40]
                      by_cases q41 : (f_X7_of (mR M) (q / 1000) 2) = (nI (q % 10))
                      · rw [if_pos q41]
                        try rfl
                      · rw [if_neg q41]
                        try rfl
                · rw [if_neg q38]
                  by_cases q42 : how = 9
                  · rw [if_pos q42]
                    by_cases q43 : 100 ≤ (nI (q % 10000))
                    · rw [if_pos q43]
                      try rfl
                    · rw [if_neg q43]
                      by_cases q44 : (f_X7_isLength (nI (q / 10000))) = 0
                      · rw [if_pos q44]
                        try rfl
                      · rw [if_neg q44]
                        by_cases q45 : (f_X7_fitsIn (mR M) (nI (q / 10000))) < (nI (q % 100))
                        · rw [if_pos q45]
                          try rfl
                        · rw [if_neg q45]
                          try rfl
                  · rw [if_neg q42]
                    try rfl
theorem sc_pow {d : Nat} (h : d ≤ 3) : 1000000 ^ d < 2 ^ 63 ∧ 0 < 1000000 ^ d := by
  match d, h with
  | 0, _ => decide
  | 1, _ => decide
  | 2, _ => decide
  | 3, _ => decide
theorem sc_div {al : Int64} {U k : Nat} (h : al = lN (1000000 ^ (U - k))) (hk : k < U) (hU : U ≤ 3) : al / 1000000 = lN (1000000 ^ (U - (k + 1))) := by
  have e : U - k = (U - (k + 1)) + 1 := by omega
  have q := sc_pow (d := U - k) (by omega)
  rw [h, show (1000000 : Int64) = lN 1000000 from rfl, pk_lDiv q.1 (by omega) (by omega), e, Nat.pow_succ, Nat.mul_div_cancel _ (by omega)]
theorem sc_ne {al : Int64} {U k : Nat} (h : al = lN (1000000 ^ (U - k))) (hk : k < U) (hU : U ≤ 3) : ¬ al / 1000000 = 0 := by
  rw [sc_div h hk hU]
  have q := sc_pow (d := U - (k + 1)) (by omega)
  rw [show (0 : Int64) = lN 0 from rfl, pk_lEQ q.1 (by omega)]
  omega
theorem sc_grp {sc al : Int64} {U k : Nat} (hs : ∃ t, t < 2 ^ 63 ∧ sc = lN t) (h : al = lN (1000000 ^ (U - k))) (hk : k < U) (hU : U ≤ 3) : ∃ u, u < 1000000 ∧ (sc / (al / 1000000) - sc / (al / 1000000) / 1000000 * 1000000).toInt32 = nI u := by
  obtain ⟨t, ht, rfl⟩ := hs
  have q := sc_pow (d := U - (k + 1)) (by omega)
  rw [sc_div h hk hU, pk_lDiv ht q.2 q.1, show (1000000 : Int64) = lN 1000000 from rfl, pk_lRem (Nat.lt_of_le_of_lt (Nat.div_le_self ..) ht) (by omega) (by omega), lN_i]
  exact ⟨_, Nat.mod_lt _ (by omega), rfl⟩
theorem cl_self {x : Int32} (h : ∃ u, u < 2 ^ 31 ∧ x = nI u) : x = nI x.toNatClampNeg := by
  obtain ⟨u, hu, rfl⟩ := h
  rw [nI_clamp hu]
theorem sc_self {sc al : Int64} {U k : Nat} (hs : ∃ t, t < 2 ^ 63 ∧ sc = lN t) (h : al = lN (1000000 ^ (U - k))) (hk : k < U) (hU : U ≤ 3) : (sc / (al / 1000000) - sc / (al / 1000000) / 1000000 * 1000000).toInt32 = nI (sc / (al / 1000000) - sc / (al / 1000000) / 1000000 * 1000000).toInt32.toNatClampNeg := by
  obtain ⟨u, hu, e⟩ := sc_grp hs h hk hU
  exact cl_self ⟨u, by omega, e⟩
theorem sc_pos {sc al : Int64} (h : ¬ f_X7_in sc 0 (al - 1) = 0) : ∃ t, t < 2 ^ 63 ∧ sc = lN t := by
  have h1 := (in_ne h).1
  refine pk_lOf ?_
  rw [Int64.lt_iff_toInt_lt]
  omega
/-- the number of commands, from the loop that counts its digits -/
theorem sc_n {w : Int32} {k : Nat} (hi : ¬ f_X7_in w.toInt64 1 3 = 0) (hk : k ≤ 3) (hp : k = 0 ∨ ¬ w ≤ nI (k - 1)) (hx : w ≤ nI k ∨ (3 : Int32) ≤ nI k) : 1 ≤ k ∧ w = nI k := by
  have h1 := in_ne hi
  rw [i64, show (1 : Int64).toInt = 1 by decide, show (3 : Int64).toInt = 3 by decide] at h1
  obtain ⟨j, hj, rfl⟩ := nI_of (x := w) (by rw [Int32.lt_iff_toInt_lt, Int32.toInt_zero]; omega)
  rw [nI_toInt hj] at h1
  have e : j = k := by
    have a1 : j ≤ k := by
      rcases hx with z | z
      · exact (nI_leI hj (by omega)).mp z
      · have := (nI_leI (a := 3) (by omega) (by omega)).mp z
        omega
    rcases hp with z | z
    · omega
    · rw [nI_leI hj (by omega)] at z
      omega
  subst e
  exact ⟨by omega, rfl⟩
theorem RI_cpR {M : Mo} (h : RI (mN M)) : RI (mR (oR (h_X7_refused M 0).2 (h_X7_copyState (mN (h_X7_refused M 0).2) (mR (h_X7_refused M 0).2) 0 0))) := by
  rw [mR_oR, ref_N]
  exact RI_cp h

def lp_rScript (w : Int32) (sc : Int64) : Nat → Int64 → Nat → Mo → Int32 × Mo
  | 0, _, _, M2 => (-1, M2)
  | n + 1, al, k, M2 => if w ≤ (nI k) then ((-1), M2) else
    if ((h_X7_command M2 (nI (((((sc / (al / 1000000)) - (sc / (al / 1000000)) / 1000000 * 1000000).toInt32).toNatClampNeg) / 100000)) (((((sc / (al / 1000000)) - (sc / (al / 1000000)) / 1000000 * 1000000).toInt32).toNatClampNeg) % 100000)).1) = 0 then (nI k, (h_X7_command M2 (nI (((((sc / (al / 1000000)) - (sc / (al / 1000000)) / 1000000 * 1000000).toInt32).toNatClampNeg) / 100000)) (((((sc / (al / 1000000)) - (sc / (al / 1000000)) / 1000000 * 1000000).toInt32).toNatClampNeg) % 100000)).2) else
    lp_rScript w sc n (al / 1000000) (k + 1) ((h_X7_command M2 (nI (((((sc / (al / 1000000)) - (sc / (al / 1000000)) / 1000000 * 1000000).toInt32).toNatClampNeg) / 100000)) (((((sc / (al / 1000000)) - (sc / (al / 1000000)) / 1000000 * 1000000).toInt32).toNatClampNeg) % 100000)).2)
def lp_rUnit (M : Mo) (w : Int32) (sc : Int64) : Nat → Int64 → Nat → Int32 × Mo
  | 0, _, _ => (0, M)
  | n + 1, al, k => if w ≤ (nI k) then (if (f_X7_in w.toInt64 1 3) = 0 then (0, (h_X7_refused M 1).2) else
      if (f_X7_in sc 0 (al - 1)) = 0 then (0, (h_X7_refused M 1).2) else
      lp_rScript w sc 4 al 0 (oR ((h_X7_refused M 0).2) (h_X7_copyState (mN ((h_X7_refused M 0).2)) (mR ((h_X7_refused M 0).2)) 0 0))) else
    if 3 ≤ (nI k) then (if (f_X7_in w.toInt64 1 3) = 0 then (0, (h_X7_refused M 1).2) else
      if (f_X7_in sc 0 (al - 1)) = 0 then (0, (h_X7_refused M 1).2) else
      lp_rScript w sc 4 al 0 (oR ((h_X7_refused M 0).2) (h_X7_copyState (mN ((h_X7_refused M 0).2)) (mR ((h_X7_refused M 0).2)) 0 0))) else
    lp_rUnit M w sc n (al * 1000000) (k + 1)
def h_X7_runScript (M : Mo) (w : Int32) (sc : Int64) : Int32 × Mo :=
  lp_rUnit M w sc 4 1 0
set_option maxHeartbeats 4000000 in
set_option maxRecDepth 100000 in
theorem c_X7_runScript (l : Launch) (G : GG) (b : Nat) (M : Mo) (w : Int32) (sc : Int64) (hRI : RI (mN M)) : Met l yX7_runScript wsX7_runScript ({ frames := 8, cells := 0, slots := 0, locals := 187 }) (PcH G [.ref b, .int w, .long sc] (Md G b M)) (QM (some (.int ((h_X7_runScript M w sc).1))) (Md G b ((h_X7_runScript M w sc).2)) (blk b (b + 8))) 0 0 (blk b (b + 8)) := by
  refine metH (cc := cX7_runScript) (maxL := 8) (ret := (some .int)) (by decide) rfl ?_
  intro p e s m below meth cd hx hb hr hml hown hts hlocks hP hO
  have hin7 : ∀ w ∈ u_ws RX7 TX7 12, w ∈ wsX7_runScript := by decide +kernel
  have hf_13 := hts (.fieldLink RX7 13 "CurbCarsModel" "now" "[I") (by decide +kernel)
  have hf_16 := hts (.fieldLink RX7 16 "CurbCarsModel" "trial" "[I") (by decide +kernel)
  have hA : ∀ q, (blk b (b + 8)) q → (blk b (b + 8)) q := fun _ h => h
  have hS : va_S (blk b (b + 8)) s.heap s.heap [] := va_S.rf
  have hl := lv_entry ([.ref b, .int w, .long sc]) (n := 8) (Nat.le_of_ble_eq_true rfl)
  rw [lg_entry_eq]
  generalize (lg_sl ([.ref b, .int w, .long sc]) ++ List.replicate (8 - (lg_sl ([.ref b, .int w, .long sc])).length) Slot.unset).toArray = ls at hl ⊢
  have hl : lv_has ls 8 [(0, .ref b), (1, .int w), (2, .long sc)] := hl
  have loop86 : ∀ (n : Nat) (al : Int64) (k : Nat) (M2 : Mo), k ≤ 3 → k + n = 4 → (∃ t, t < 2 ^ 63 ∧ sc = lN t) → (∃ U, 1 ≤ U ∧ U ≤ 3 ∧ w = nI U ∧ k ≤ U ∧ al = lN (1000000 ^ (U - k))) → RI (mR M2) → h_X7_runScript M w sc = lp_rScript w sc n al k M2 → ∀ (H : Heap) (locs : List Loc) (ls : Array Slot), Md G b M2 H → va_S (blk b (b + 8)) s.heap H locs → lv_has ls 8 [(0, .ref b), (1, .int w), (2, .long sc), (4, .long al), (6, .int (nI k))] → W p l e (headSpec wsX7_runScript ({ frames := 8, cells := 0, slots := 0, locals := 187 } : Room)).room s m ([.ref b, .int w, .long sc] : List Value).toArray below meth cd H locs 0 0 (MQ below (QM (some (.int ((h_X7_runScript M w sc).1))) (Md G b ((h_X7_runScript M w sc).2)) (blk b (b + 8))) ([.ref b, .int w, .long sc] : List Value).toArray s 0 0 (blk b (b + 8))) (F0 m 86 ls []) := by
    intro n
    induction n with
    | zero =>
      intro al k M2 hk hn hsc hw hRI hR H locs ls hP hS hl
      exact absurd hn (by omega)
    | succ n ih =>
      intro al k M2 hk hn hsc hw hRI hR H locs ls hP hS hl
      refine lv_iload hx hb dX7_runScript_86 (lv_at hl 4 rfl) ?_
      refine lv_iload_n hx hb dX7_runScript_88 rfl (lv_at hl 1 rfl) ?_
      refine lv_icmp_ge (tgt := 137) hx hb dX7_runScript_89 (by decide) (fun c_1 => ?_) (fun c_1 => ?_)
      · refine lv_iconst (v := -1) hx hb dX7_runScript_137 (by decide) ?_
        have hE : h_X7_runScript M w sc = ((-1), M2) := (hR.trans (by rw [lp_rScript, if_pos c_1]))
        have hE2 := snd_of hE
        exact W.iret hx hb hr (fun t ht hW => ⟨by rw [fst_of hE], by rw [ht, hE2]; exact hP, hS.F ht⟩) hS.2.2 dX7_runScript_138
      · have hlt : k < 3 := (by obtain ⟨U, h1, h2, h3, h4, h5⟩ := hw; have h9 := c_1; rw [h3] at h9; have h8 := kN (B := U) h9 (by omega) (by omega); omega)
        obtain ⟨U, hw1, hw2, hw3, hw4, hw5⟩ := hw
        have hlU : k < U := (by have h9 := c_1; rw [hw3] at h9; exact kN (B := U) h9 (by omega) (by omega))
        refine lv_lload hx hb dX7_runScript_92 (lv_at hl 3 rfl) ?_
        refine lv_ldc2 (v := 1000000) hx hb hown (hts (.constantLong RX7 242 (1000000)) (by decide +kernel)) dX7_runScript_94 ?_
        refine lv_ldiv hx hb dX7_runScript_97 (by decide) ?_
        refine lv_lstore (lv' := [(4, .long (al / 1000000)), (0, .ref b), (1, .int w), (2, .long sc), (6, .int (nI k))]) hx hb dX7_runScript_98 hl (by decide) rfl (fun ls hl => ?_)
        refine lv_lload_n hx hb dX7_runScript_100 rfl (lv_at hl 3 rfl) ?_
        refine lv_lload hx hb dX7_runScript_101 (lv_at hl 0 rfl) ?_
        refine lv_ldiv hx hb dX7_runScript_103 (sc_ne hw5 (by omega) hw2) ?_
        refine lv_ldc2 (v := 1000000) hx hb hown (hts (.constantLong RX7 242 (1000000)) (by decide +kernel)) dX7_runScript_104 ?_
        refine lv_lrem hx hb dX7_runScript_107 (by decide) ?_
        refine lv_l2i (v := ((sc / (al / 1000000)) - (sc / (al / 1000000)) / 1000000 * 1000000).toInt32) hx hb dX7_runScript_108 rfl ?_
        rw [(sc_self hsc hw5 (by omega) hw2)]
        refine lv_istore (lv' := [(7, .int (nI ((((sc / (al / 1000000)) - (sc / (al / 1000000)) / 1000000 * 1000000).toInt32).toNatClampNeg))), (4, .long (al / 1000000)), (0, .ref b), (1, .int w), (2, .long sc), (6, .int (nI k))]) hx hb dX7_runScript_109 hl (by decide) rfl (fun ls hl => ?_)
        refine lv_aload_n hx hb dX7_runScript_111 rfl (lv_at hl 2 rfl) ?_
        refine lv_iload hx hb dX7_runScript_112 (lv_at hl 0 rfl) ?_
        refine lv_ldc (v := 100000) hx hb hown (hts (.constant RX7 246 (100000)) (by decide +kernel)) dX7_runScript_114 ?_
        refine idiv_n (a := (((sc / (al / 1000000)) - (sc / (al / 1000000)) / 1000000 * 1000000).toInt32).toNatClampNeg) (b := 100000) hx hb ⟨clamp_lt _, by omega, by omega⟩ dX7_runScript_116 ?_
        refine lv_iload hx hb dX7_runScript_117 (lv_at hl 0 rfl) ?_
        refine lv_ldc (v := 100000) hx hb hown (hts (.constant RX7 246 (100000)) (by decide +kernel)) dX7_runScript_119 ?_
        refine irem_n (a := (((sc / (al / 1000000)) - (sc / (al / 1000000)) / 1000000 * 1000000).toInt32).toNatClampNeg) (b := 100000) hx hb ⟨clamp_lt _, by omega, by omega⟩ dX7_runScript_121 ?_
        refine cl_mi (rV (As := [.int (nI (((((sc / (al / 1000000)) - (sc / (al / 1000000)) / 1000000 * 1000000).toInt32).toNatClampNeg) / 100000)), .int (nI (((((sc / (al / 1000000)) - (sc / (al / 1000000)) / 1000000 * 1000000).toInt32).toNatClampNeg) % 100000))]) (rest := []) ⟨hx, hb, hml, hown, hts⟩ (c_X7_command l G b M2 (nI (((((sc / (al / 1000000)) - (sc / (al / 1000000)) / 1000000 * 1000000).toInt32).toNatClampNeg) / 100000)) (((((sc / (al / 1000000)) - (sc / (al / 1000000)) / 1000000 * 1000000).toInt32).toNatClampNeg) % 100000) hRI (by omega)) (cwV 2 hts gX7_runScript_X7_command rfl rfl rfl (by decide +kernel) ⟨Nat.le_of_ble_eq_true rfl, Nat.le_of_ble_eq_true rfl⟩) (md_recv hO hP) hP hO rfl hl.1 (Nat.le_of_ble_eq_true rfl) dX7_runScript_122 ⟨Nat.le_of_ble_eq_true rfl, Nat.le_of_ble_eq_true rfl⟩) hS hA (fun H locs hP1 hz hk hS => ?_)
        have hP : Md G b ((h_X7_command M2 (nI (((((sc / (al / 1000000)) - (sc / (al / 1000000)) / 1000000 * 1000000).toInt32).toNatClampNeg) / 100000)) (((((sc / (al / 1000000)) - (sc / (al / 1000000)) / 1000000 * 1000000).toInt32).toNatClampNeg) % 100000)).2) H := hP1
        refine lv_if_ne (tgt := 131) hx hb dX7_runScript_125 (by decide) (fun c_2 => ?_) (fun c_2 => ?_)
        · refine lv_iinc (v := nI (k + 1)) (lv' := [(6, .int (nI (k + 1))), (7, .int (nI ((((sc / (al / 1000000)) - (sc / (al / 1000000)) / 1000000 * 1000000).toInt32).toNatClampNeg))), (4, .long (al / 1000000)), (0, .ref b), (1, .int w), (2, .long sc)]) hx hb dX7_runScript_131 hl (k := 5) rfl (nI_1 _) (by decide) rfl (fun ls hl => ?_)
          refine lv_goto (tgt := 86) hx hb dX7_runScript_134 (by decide) ?_
          have hE_3 : h_X7_runScript M w sc = lp_rScript w sc n (al / 1000000) (k + 1) ((h_X7_command M2 (nI (((((sc / (al / 1000000)) - (sc / (al / 1000000)) / 1000000 * 1000000).toInt32).toNatClampNeg) / 100000)) (((((sc / (al / 1000000)) - (sc / (al / 1000000)) / 1000000 * 1000000).toInt32).toNatClampNeg) % 100000)).2) := (hR.trans (by rw [lp_rScript, if_neg c_1, if_neg c_2]))
          exact ih (al / 1000000) (k + 1) ((h_X7_command M2 (nI (((((sc / (al / 1000000)) - (sc / (al / 1000000)) / 1000000 * 1000000).toInt32).toNatClampNeg) / 100000)) (((((sc / (al / 1000000)) - (sc / (al / 1000000)) / 1000000 * 1000000).toInt32).toNatClampNeg) % 100000)).2) (by omega) (by omega) hsc ⟨U, hw1, hw2, hw3, by omega, sc_div hw5 (by omega) hw2⟩ (RI_command hRI _ (by omega)) hE_3 _ _ _ hP hS (lv_sub hl [3, 4, 5, 2, 0] rfl)
        · refine lv_iload hx hb dX7_runScript_128 (lv_at hl 5 rfl) ?_
          have hE : h_X7_runScript M w sc = (nI k, (h_X7_command M2 (nI (((((sc / (al / 1000000)) - (sc / (al / 1000000)) / 1000000 * 1000000).toInt32).toNatClampNeg) / 100000)) (((((sc / (al / 1000000)) - (sc / (al / 1000000)) / 1000000 * 1000000).toInt32).toNatClampNeg) % 100000)).2) := (hR.trans (by rw [lp_rScript, if_neg c_1, if_pos c_2]))
          have hE2 := snd_of hE
          exact W.iret hx hb hr (fun t ht hW => ⟨by rw [fst_of hE], by rw [ht, hE2]; exact hP, hS.F ht⟩) hS.2.2 dX7_runScript_130
  have loop6 : ∀ (n : Nat) (al : Int64) (k : Nat) , k ≤ 3 → k + n = 4 → al = lN (1000000 ^ k) ∧ (k = 0 ∨ ¬ w ≤ nI (k - 1)) → h_X7_runScript M w sc = lp_rUnit M w sc n al k → ∀ (H : Heap) (locs : List Loc) (ls : Array Slot), Md G b M H → va_S (blk b (b + 8)) s.heap H locs → lv_has ls 8 [(0, .ref b), (1, .int w), (2, .long sc), (4, .long al), (6, .int (nI k))] → W p l e (headSpec wsX7_runScript ({ frames := 8, cells := 0, slots := 0, locals := 187 } : Room)).room s m ([.ref b, .int w, .long sc] : List Value).toArray below meth cd H locs 0 0 (MQ below (QM (some (.int ((h_X7_runScript M w sc).1))) (Md G b ((h_X7_runScript M w sc).2)) (blk b (b + 8))) ([.ref b, .int w, .long sc] : List Value).toArray s 0 0 (blk b (b + 8))) (F0 m 6 ls []) := by
    intro n
    induction n with
    | zero =>
      intro al k hk3 hn hal hR H locs ls hP hS hl
      exact absurd hn (by omega)
    | succ n ih =>
      intro al k hk3 hn hal hR H locs ls hP hS hl
      refine lv_iload hx hb dX7_runScript_6 (lv_at hl 4 rfl) ?_
      refine lv_iload_n hx hb dX7_runScript_8 rfl (lv_at hl 1 rfl) ?_
      refine lv_icmp_ge (tgt := 32) hx hb dX7_runScript_9 (by decide) (fun c_4 => ?_) (fun c_4 => ?_)
      · refine lv_aload_n hx hb dX7_runScript_32 rfl (lv_at hl 0 rfl) ?_
        refine lv_iload_n hx hb dX7_runScript_33 rfl (lv_at hl 1 rfl) ?_
        refine lv_i2l (v := w.toInt64) hx hb dX7_runScript_34 rfl ?_
        refine lv_lconst (v := 1) hx hb dX7_runScript_35 (by decide) ?_
        refine lv_ldc2 (v := 3) hx hb hown (hts (.constantLong RX7 244 (3)) (by decide +kernel)) dX7_runScript_36 ?_
        refine cl_pi (rS (As := [.long w.toInt64, .long 1, .long 3]) (rest := [.ref b]) ⟨hx, hb, hml, hown, hts⟩ (c_X7_in l G w.toInt64 1 3) (va_cwS 3 hts gX7_runScript_X7_in rfl rfl rfl (by decide +kernel) ⟨Nat.le_of_ble_eq_true rfl, Nat.le_of_ble_eq_true rfl⟩) trivial hO rfl hl.1 (Nat.le_of_ble_eq_true rfl) dX7_runScript_39 ⟨Nat.le_of_ble_eq_true rfl, Nat.le_of_ble_eq_true rfl⟩) ?_
        refine lv_if_eq (tgt := 61) hx hb dX7_runScript_42 (by decide) (fun c_5 => ?_) (fun c_5 => ?_)
        · refine lv_iconst (v := 1) hx hb dX7_runScript_61 (by decide) ?_
          refine cl_mi (rV (As := [.int 1]) (rest := []) ⟨hx, hb, hml, hown, hts⟩ (c_X7_refused l G b M 1) (cwV 1 hts gX7_runScript_X7_refused rfl rfl rfl (by decide +kernel) ⟨Nat.le_of_ble_eq_true rfl, Nat.le_of_ble_eq_true rfl⟩) (md_recv hO hP) hP hO rfl hl.1 (Nat.le_of_ble_eq_true rfl) dX7_runScript_62 ⟨Nat.le_of_ble_eq_true rfl, Nat.le_of_ble_eq_true rfl⟩) hS hA (fun H locs hP1 hz hk hS => ?_)
          have hP : Md G b ((h_X7_refused M 1).2) H := hP1
          refine lv_if_eq (tgt := 70) hx hb dX7_runScript_65 (by decide) (fun c_6 => ?_) (fun c_6 => ?_)
          · exact absurd c_6 (ref_p1 _)
          · refine lv_iconst (v := 0) hx hb dX7_runScript_68 (by decide) ?_
            have hE : h_X7_runScript M w sc = (0, (h_X7_refused M 1).2) := (hR.trans (by rw [lp_rUnit, if_pos c_4, if_pos c_5]))
            have hE2 := snd_of hE
            exact W.iret hx hb hr (fun t ht hW => ⟨by rw [fst_of hE], by rw [ht, hE2]; exact hP, hS.F ht⟩) hS.2.2 dX7_runScript_69
        · refine lv_lload_n hx hb dX7_runScript_45 rfl (lv_at hl 2 rfl) ?_
          refine lv_lconst (v := 0) hx hb dX7_runScript_46 (by decide) ?_
          refine lv_lload hx hb dX7_runScript_47 (lv_at hl 3 rfl) ?_
          refine lv_lconst (v := 1) hx hb dX7_runScript_49 (by decide) ?_
          refine lv_lsub hx hb dX7_runScript_50 ?_
          refine cl_pi (rS (As := [.long sc, .long 0, .long (al - 1)]) (rest := [.ref b]) ⟨hx, hb, hml, hown, hts⟩ (c_X7_in l G sc 0 (al - 1)) (va_cwS 3 hts gX7_runScript_X7_in rfl rfl rfl (by decide +kernel) ⟨Nat.le_of_ble_eq_true rfl, Nat.le_of_ble_eq_true rfl⟩) trivial hO rfl hl.1 (Nat.le_of_ble_eq_true rfl) dX7_runScript_51 ⟨Nat.le_of_ble_eq_true rfl, Nat.le_of_ble_eq_true rfl⟩) ?_
          refine lv_if_eq (tgt := 61) hx hb dX7_runScript_54 (by decide) (fun c_7 => ?_) (fun c_7 => ?_)
          · refine lv_iconst (v := 1) hx hb dX7_runScript_61 (by decide) ?_
            refine cl_mi (rV (As := [.int 1]) (rest := []) ⟨hx, hb, hml, hown, hts⟩ (c_X7_refused l G b M 1) (cwV 1 hts gX7_runScript_X7_refused rfl rfl rfl (by decide +kernel) ⟨Nat.le_of_ble_eq_true rfl, Nat.le_of_ble_eq_true rfl⟩) (md_recv hO hP) hP hO rfl hl.1 (Nat.le_of_ble_eq_true rfl) dX7_runScript_62 ⟨Nat.le_of_ble_eq_true rfl, Nat.le_of_ble_eq_true rfl⟩) hS hA (fun H locs hP1 hz hk hS => ?_)
            have hP : Md G b ((h_X7_refused M 1).2) H := hP1
            refine lv_if_eq (tgt := 70) hx hb dX7_runScript_65 (by decide) (fun c_8 => ?_) (fun c_8 => ?_)
            · exact absurd c_8 (ref_p1 _)
            · refine lv_iconst (v := 0) hx hb dX7_runScript_68 (by decide) ?_
              have hE : h_X7_runScript M w sc = (0, (h_X7_refused M 1).2) := (hR.trans (by rw [lp_rUnit, if_pos c_4, if_neg c_5, if_pos c_7]))
              have hE2 := snd_of hE
              exact W.iret hx hb hr (fun t ht hW => ⟨by rw [fst_of hE], by rw [ht, hE2]; exact hP, hS.F ht⟩) hS.2.2 dX7_runScript_69
          · refine lv_iconst (v := 0) hx hb dX7_runScript_57 (by decide) ?_
            refine lv_goto (tgt := 62) hx hb dX7_runScript_58 (by decide) ?_
            refine cl_mi (rV (As := [.int 0]) (rest := []) ⟨hx, hb, hml, hown, hts⟩ (c_X7_refused l G b M 0) (cwV 1 hts gX7_runScript_X7_refused rfl rfl rfl (by decide +kernel) ⟨Nat.le_of_ble_eq_true rfl, Nat.le_of_ble_eq_true rfl⟩) (md_recv hO hP) hP hO rfl hl.1 (Nat.le_of_ble_eq_true rfl) dX7_runScript_62 ⟨Nat.le_of_ble_eq_true rfl, Nat.le_of_ble_eq_true rfl⟩) hS hA (fun H locs hP1 hz hk hS => ?_)
            have hP : Md G b ((h_X7_refused M 0).2) H := hP1
            refine lv_if_eq (tgt := 70) hx hb dX7_runScript_65 (by decide) (fun c_9 => ?_) (fun c_9 => ?_)
            · refine lv_aload_n hx hb dX7_runScript_70 rfl (lv_at hl 0 rfl) ?_
              refine va_get (D := G.1) (ci := 5) (v := .ref (b + 2)) (C := RX7) (T := TX7) (N := 12) hx hb hts hin7 hown hO.1 hP 0 rfl rfl 3 (by decide) hf_13 (fun _ h9 => h9) rfl dX7_runScript_71 ?_
              refine lv_iconst (v := 0) hx hb dX7_runScript_74 (by decide) ?_
              refine lv_aload_n hx hb dX7_runScript_75 rfl (lv_at hl 0 rfl) ?_
              refine va_get (D := G.1) (ci := 5) (v := .ref (b + 3)) (C := RX7) (T := TX7) (N := 12) hx hb hts hin7 hown hO.1 hP 0 rfl rfl 4 (by decide) hf_16 (fun _ h9 => h9) rfl dX7_runScript_76 ?_
              refine lv_iconst (v := 0) hx hb dX7_runScript_79 (by decide) ?_
              refine cl_mv (rS (As := [.ref (b + 2), .int 0, .ref (b + 3), .int 0]) (rest := []) ⟨hx, hb, hml, hown, hts⟩ (c_X7_copyState l G (b + 2) 327 (mN ((h_X7_refused M 0).2)) (b + 3) 327 (mR ((h_X7_refused M 0).2)) 0 0 (by omega) (by omega) (by decide) (by decide) (by omega)) (va_cwS 4 hts gX7_runScript_X7_copyState rfl rfl rfl (by decide +kernel) ⟨Nat.le_of_ble_eq_true rfl, Nat.le_of_ble_eq_true rfl⟩) (va_P.sub hP [2, 3] rfl) hO rfl hl.1 (Nat.le_of_ble_eq_true rfl) dX7_runScript_80 ⟨Nat.le_of_ble_eq_true rfl, Nat.le_of_ble_eq_true rfl⟩) hS (fun q h => hA q (by simp only [two, blk] at *; omega)) (fun H locs hP1 hz hk hS => ?_)
              have hP : Md G b (oR ((h_X7_refused M 0).2) (h_X7_copyState (mN ((h_X7_refused M 0).2)) (mR ((h_X7_refused M 0).2)) 0 0)) H := md_pR (two_row 2 3 hP (md_D b ((h_X7_refused M 0).2) hA) rfl rfl hP1 hk)
              refine lv_iconst (v := 0) hx hb dX7_runScript_83 (by decide) ?_
              refine lv_istore (lv' := [(6, .int 0), (0, .ref b), (1, .int w), (2, .long sc), (4, .long al)]) hx hb dX7_runScript_84 hl (by decide) rfl (fun ls hl => ?_)
              have hE_10 : h_X7_runScript M w sc = lp_rScript w sc 4 al 0 (oR ((h_X7_refused M 0).2) (h_X7_copyState (mN ((h_X7_refused M 0).2)) (mR ((h_X7_refused M 0).2)) 0 0)) := (hR.trans (by rw [lp_rUnit, if_pos c_4, if_neg c_5, if_neg c_7]))
              exact loop86 4 al 0 (oR ((h_X7_refused M 0).2) (h_X7_copyState (mN ((h_X7_refused M 0).2)) (mR ((h_X7_refused M 0).2)) 0 0)) (Nat.zero_le _) (by omega) (sc_pos (by assumption)) (by have h9 := sc_n (by assumption) hk3 hal.2 (by first | exact Or.inl (by assumption) | exact Or.inr (by assumption)); exact ⟨k, h9.1, by omega, h9.2, by omega, by rw [show k - 0 = k by omega]; exact hal.1⟩) (RI_cpR hRI) hE_10 _ _ _ hP hS (lv_sub hl [1, 2, 3, 4, 0] rfl)
            · exact absurd (ref_0 _) c_9
      · refine lv_iload hx hb dX7_runScript_12 (lv_at hl 4 rfl) ?_
        refine lv_iconst (v := 3) hx hb dX7_runScript_14 (by decide) ?_
        refine lv_icmp_ge (tgt := 32) hx hb dX7_runScript_15 (by decide) (fun c_11 => ?_) (fun c_11 => ?_)
        · refine lv_aload_n hx hb dX7_runScript_32 rfl (lv_at hl 0 rfl) ?_
          refine lv_iload_n hx hb dX7_runScript_33 rfl (lv_at hl 1 rfl) ?_
          refine lv_i2l (v := w.toInt64) hx hb dX7_runScript_34 rfl ?_
          refine lv_lconst (v := 1) hx hb dX7_runScript_35 (by decide) ?_
          refine lv_ldc2 (v := 3) hx hb hown (hts (.constantLong RX7 244 (3)) (by decide +kernel)) dX7_runScript_36 ?_
          refine cl_pi (rS (As := [.long w.toInt64, .long 1, .long 3]) (rest := [.ref b]) ⟨hx, hb, hml, hown, hts⟩ (c_X7_in l G w.toInt64 1 3) (va_cwS 3 hts gX7_runScript_X7_in rfl rfl rfl (by decide +kernel) ⟨Nat.le_of_ble_eq_true rfl, Nat.le_of_ble_eq_true rfl⟩) trivial hO rfl hl.1 (Nat.le_of_ble_eq_true rfl) dX7_runScript_39 ⟨Nat.le_of_ble_eq_true rfl, Nat.le_of_ble_eq_true rfl⟩) ?_
          refine lv_if_eq (tgt := 61) hx hb dX7_runScript_42 (by decide) (fun c_12 => ?_) (fun c_12 => ?_)
          · refine lv_iconst (v := 1) hx hb dX7_runScript_61 (by decide) ?_
            refine cl_mi (rV (As := [.int 1]) (rest := []) ⟨hx, hb, hml, hown, hts⟩ (c_X7_refused l G b M 1) (cwV 1 hts gX7_runScript_X7_refused rfl rfl rfl (by decide +kernel) ⟨Nat.le_of_ble_eq_true rfl, Nat.le_of_ble_eq_true rfl⟩) (md_recv hO hP) hP hO rfl hl.1 (Nat.le_of_ble_eq_true rfl) dX7_runScript_62 ⟨Nat.le_of_ble_eq_true rfl, Nat.le_of_ble_eq_true rfl⟩) hS hA (fun H locs hP1 hz hk hS => ?_)
            have hP : Md G b ((h_X7_refused M 1).2) H := hP1
            refine lv_if_eq (tgt := 70) hx hb dX7_runScript_65 (by decide) (fun c_13 => ?_) (fun c_13 => ?_)
            · exact absurd c_13 (ref_p1 _)
            · refine lv_iconst (v := 0) hx hb dX7_runScript_68 (by decide) ?_
              have hE : h_X7_runScript M w sc = (0, (h_X7_refused M 1).2) := (hR.trans (by rw [lp_rUnit, if_neg c_4, if_pos c_11, if_pos c_12]))
              have hE2 := snd_of hE
              exact W.iret hx hb hr (fun t ht hW => ⟨by rw [fst_of hE], by rw [ht, hE2]; exact hP, hS.F ht⟩) hS.2.2 dX7_runScript_69
          · refine lv_lload_n hx hb dX7_runScript_45 rfl (lv_at hl 2 rfl) ?_
            refine lv_lconst (v := 0) hx hb dX7_runScript_46 (by decide) ?_
            refine lv_lload hx hb dX7_runScript_47 (lv_at hl 3 rfl) ?_
            refine lv_lconst (v := 1) hx hb dX7_runScript_49 (by decide) ?_
            refine lv_lsub hx hb dX7_runScript_50 ?_
            refine cl_pi (rS (As := [.long sc, .long 0, .long (al - 1)]) (rest := [.ref b]) ⟨hx, hb, hml, hown, hts⟩ (c_X7_in l G sc 0 (al - 1)) (va_cwS 3 hts gX7_runScript_X7_in rfl rfl rfl (by decide +kernel) ⟨Nat.le_of_ble_eq_true rfl, Nat.le_of_ble_eq_true rfl⟩) trivial hO rfl hl.1 (Nat.le_of_ble_eq_true rfl) dX7_runScript_51 ⟨Nat.le_of_ble_eq_true rfl, Nat.le_of_ble_eq_true rfl⟩) ?_
            refine lv_if_eq (tgt := 61) hx hb dX7_runScript_54 (by decide) (fun c_14 => ?_) (fun c_14 => ?_)
            · refine lv_iconst (v := 1) hx hb dX7_runScript_61 (by decide) ?_
              refine cl_mi (rV (As := [.int 1]) (rest := []) ⟨hx, hb, hml, hown, hts⟩ (c_X7_refused l G b M 1) (cwV 1 hts gX7_runScript_X7_refused rfl rfl rfl (by decide +kernel) ⟨Nat.le_of_ble_eq_true rfl, Nat.le_of_ble_eq_true rfl⟩) (md_recv hO hP) hP hO rfl hl.1 (Nat.le_of_ble_eq_true rfl) dX7_runScript_62 ⟨Nat.le_of_ble_eq_true rfl, Nat.le_of_ble_eq_true rfl⟩) hS hA (fun H locs hP1 hz hk hS => ?_)
              have hP : Md G b ((h_X7_refused M 1).2) H := hP1
              refine lv_if_eq (tgt := 70) hx hb dX7_runScript_65 (by decide) (fun c_15 => ?_) (fun c_15 => ?_)
              · exact absurd c_15 (ref_p1 _)
              · refine lv_iconst (v := 0) hx hb dX7_runScript_68 (by decide) ?_
                have hE : h_X7_runScript M w sc = (0, (h_X7_refused M 1).2) := (hR.trans (by rw [lp_rUnit, if_neg c_4, if_pos c_11, if_neg c_12, if_pos c_14]))
                have hE2 := snd_of hE
                exact W.iret hx hb hr (fun t ht hW => ⟨by rw [fst_of hE], by rw [ht, hE2]; exact hP, hS.F ht⟩) hS.2.2 dX7_runScript_69
            · refine lv_iconst (v := 0) hx hb dX7_runScript_57 (by decide) ?_
              refine lv_goto (tgt := 62) hx hb dX7_runScript_58 (by decide) ?_
              refine cl_mi (rV (As := [.int 0]) (rest := []) ⟨hx, hb, hml, hown, hts⟩ (c_X7_refused l G b M 0) (cwV 1 hts gX7_runScript_X7_refused rfl rfl rfl (by decide +kernel) ⟨Nat.le_of_ble_eq_true rfl, Nat.le_of_ble_eq_true rfl⟩) (md_recv hO hP) hP hO rfl hl.1 (Nat.le_of_ble_eq_true rfl) dX7_runScript_62 ⟨Nat.le_of_ble_eq_true rfl, Nat.le_of_ble_eq_true rfl⟩) hS hA (fun H locs hP1 hz hk hS => ?_)
              have hP : Md G b ((h_X7_refused M 0).2) H := hP1
              refine lv_if_eq (tgt := 70) hx hb dX7_runScript_65 (by decide) (fun c_16 => ?_) (fun c_16 => ?_)
              · refine lv_aload_n hx hb dX7_runScript_70 rfl (lv_at hl 0 rfl) ?_
                refine va_get (D := G.1) (ci := 5) (v := .ref (b + 2)) (C := RX7) (T := TX7) (N := 12) hx hb hts hin7 hown hO.1 hP 0 rfl rfl 3 (by decide) hf_13 (fun _ h9 => h9) rfl dX7_runScript_71 ?_
                refine lv_iconst (v := 0) hx hb dX7_runScript_74 (by decide) ?_
                refine lv_aload_n hx hb dX7_runScript_75 rfl (lv_at hl 0 rfl) ?_
                refine va_get (D := G.1) (ci := 5) (v := .ref (b + 3)) (C := RX7) (T := TX7) (N := 12) hx hb hts hin7 hown hO.1 hP 0 rfl rfl 4 (by decide) hf_16 (fun _ h9 => h9) rfl dX7_runScript_76 ?_
                refine lv_iconst (v := 0) hx hb dX7_runScript_79 (by decide) ?_
                refine cl_mv (rS (As := [.ref (b + 2), .int 0, .ref (b + 3), .int 0]) (rest := []) ⟨hx, hb, hml, hown, hts⟩ (c_X7_copyState l G (b + 2) 327 (mN ((h_X7_refused M 0).2)) (b + 3) 327 (mR ((h_X7_refused M 0).2)) 0 0 (by omega) (by omega) (by decide) (by decide) (by omega)) (va_cwS 4 hts gX7_runScript_X7_copyState rfl rfl rfl (by decide +kernel) ⟨Nat.le_of_ble_eq_true rfl, Nat.le_of_ble_eq_true rfl⟩) (va_P.sub hP [2, 3] rfl) hO rfl hl.1 (Nat.le_of_ble_eq_true rfl) dX7_runScript_80 ⟨Nat.le_of_ble_eq_true rfl, Nat.le_of_ble_eq_true rfl⟩) hS (fun q h => hA q (by simp only [two, blk] at *; omega)) (fun H locs hP1 hz hk hS => ?_)
                have hP : Md G b (oR ((h_X7_refused M 0).2) (h_X7_copyState (mN ((h_X7_refused M 0).2)) (mR ((h_X7_refused M 0).2)) 0 0)) H := md_pR (two_row 2 3 hP (md_D b ((h_X7_refused M 0).2) hA) rfl rfl hP1 hk)
                refine lv_iconst (v := 0) hx hb dX7_runScript_83 (by decide) ?_
                refine lv_istore (lv' := [(6, .int 0), (0, .ref b), (1, .int w), (2, .long sc), (4, .long al)]) hx hb dX7_runScript_84 hl (by decide) rfl (fun ls hl => ?_)
                have hE_17 : h_X7_runScript M w sc = lp_rScript w sc 4 al 0 (oR ((h_X7_refused M 0).2) (h_X7_copyState (mN ((h_X7_refused M 0).2)) (mR ((h_X7_refused M 0).2)) 0 0)) := (hR.trans (by rw [lp_rUnit, if_neg c_4, if_pos c_11, if_neg c_12, if_neg c_14]))
                exact loop86 4 al 0 (oR ((h_X7_refused M 0).2) (h_X7_copyState (mN ((h_X7_refused M 0).2)) (mR ((h_X7_refused M 0).2)) 0 0)) (Nat.zero_le _) (by omega) (sc_pos (by assumption)) (by have h9 := sc_n (by assumption) hk3 hal.2 (by first | exact Or.inl (by assumption) | exact Or.inr (by assumption)); exact ⟨k, h9.1, by omega, h9.2, by omega, by rw [show k - 0 = k by omega]; exact hal.1⟩) (RI_cpR hRI) hE_17 _ _ _ hP hS (lv_sub hl [1, 2, 3, 4, 0] rfl)
              · exact absurd (ref_0 _) c_16
        · have hlt : k < 3 := kN (B := 3) c_11 (by omega) (by omega)
          refine lv_lload hx hb dX7_runScript_18 (lv_at hl 3 rfl) ?_
          refine lv_ldc2 (v := 1000000) hx hb hown (hts (.constantLong RX7 242 (1000000)) (by decide +kernel)) dX7_runScript_20 ?_
          refine lv_lmul hx hb dX7_runScript_23 ?_
          refine lv_lstore (lv' := [(4, .long (al * 1000000)), (0, .ref b), (1, .int w), (2, .long sc), (6, .int (nI k))]) hx hb dX7_runScript_24 hl (by decide) rfl (fun ls hl => ?_)
          refine lv_iinc (v := nI (k + 1)) (lv' := [(6, .int (nI (k + 1))), (4, .long (al * 1000000)), (0, .ref b), (1, .int w), (2, .long sc)]) hx hb dX7_runScript_26 hl (k := 4) rfl (nI_1 _) (by decide) rfl (fun ls hl => ?_)
          refine lv_goto (tgt := 6) hx hb dX7_runScript_29 (by decide) ?_
          have hE_18 : h_X7_runScript M w sc = lp_rUnit M w sc n (al * 1000000) (k + 1) := (hR.trans (by rw [lp_rUnit, if_neg c_4, if_neg c_11]))
          exact ih (al * 1000000) (k + 1) (by omega) (by omega) ⟨by rw [hal.1, show (1000000 : Int64) = lN 1000000 from rfl, lN_mul, Nat.pow_succ], Or.inr (by rw [show k + 1 - 1 = k by omega]; assumption)⟩ hE_18 _ _ _ hP hS (lv_sub hl [2, 3, 4, 1, 0] rfl)
  refine lv_lconst (v := 1) hx hb dX7_runScript_0 (by decide) ?_
  refine lv_lstore (lv' := [(4, .long 1), (0, .ref b), (1, .int w), (2, .long sc)]) hx hb dX7_runScript_1 hl (by decide) rfl (fun ls hl => ?_)
  refine lv_iconst (v := 0) hx hb dX7_runScript_3 (by decide) ?_
  refine lv_istore (lv' := [(6, .int 0), (4, .long 1), (0, .ref b), (1, .int w), (2, .long sc)]) hx hb dX7_runScript_4 hl (by decide) rfl (fun ls hl => ?_)
  have hE_19 : h_X7_runScript M w sc = lp_rUnit M w sc 4 1 0 := (by rw [h_X7_runScript])
  exact loop6 4 1 0 (by omega) (by omega) ⟨rfl, Or.inl rfl⟩ hE_19 _ _ _ hP hS (lv_sub hl [2, 3, 4, 1, 0] rfl)

def lp_rSim (w : Int32) : Nat → Nat → Int64 → Mo → Int32 × Mo
  | 0, _, _, M2 => (0, M2)
  | n + 1, k, x, M2 => if w ≤ (nI k) then (((10000 * (f_X7_many (mR M2) 0)) + (100 * ((f_X7_many (mR M2) 3) - (f_X7_many (mN M2) 3)))) + (f_X7_cellsWith (mR M2) (-1)), M2) else
    lp_rSim w n (k + 1) ((x * 6364136223846793005) + 1442695040888963407) (oR M2 (h_X7_turnOf (mR M2) (nI ((((jUshr ((x * 6364136223846793005) + 1442695040888963407) 33).toInt32).toNatClampNeg) % 8)) ((((jUshr ((x * 6364136223846793005) + 1442695040888963407) 33).toInt32).toNatClampNeg) / 8)))
def h_X7_simulate (M : Mo) (sd : Int64) (w : Int32) : Int32 × Mo :=
  if (f_X7_in w.toInt64 1 60) = 0 then (0, (h_X7_refused M 1).2) else
  lp_rSim w (w.toNatClampNeg + 1) 0 sd (oR ((h_X7_refused M 0).2) (h_X7_copyState (mN ((h_X7_refused M 0).2)) (mR ((h_X7_refused M 0).2)) 0 0))
set_option maxHeartbeats 4000000 in
set_option maxRecDepth 100000 in
theorem c_X7_simulate (l : Launch) (G : GG) (b : Nat) (M : Mo) (sd : Int64) (w : Int32) (hRI : RI (mN M)) : Met l yX7_simulate wsX7_simulate ({ frames := 8, cells := 0, slots := 0, locals := 181 }) (PcH G [.ref b, .long sd, .int w] (Md G b M)) (QM (some (.int ((h_X7_simulate M sd w).1))) (Md G b ((h_X7_simulate M sd w).2)) (blk b (b + 8))) 0 0 (blk b (b + 8)) := by
  refine metH (cc := cX7_simulate) (maxL := 8) (ret := (some .int)) (by decide) rfl ?_
  intro p e s m below meth cd hx hb hr hml hown hts hlocks hP hO
  have hin7 : ∀ w ∈ u_ws RX7 TX7 12, w ∈ wsX7_simulate := by decide +kernel
  have hf_13 := hts (.fieldLink RX7 13 "CurbCarsModel" "now" "[I") (by decide +kernel)
  have hf_16 := hts (.fieldLink RX7 16 "CurbCarsModel" "trial" "[I") (by decide +kernel)
  have hA : ∀ q, (blk b (b + 8)) q → (blk b (b + 8)) q := fun _ h => h
  have hS : va_S (blk b (b + 8)) s.heap s.heap [] := va_S.rf
  have hl := lv_entry ([.ref b, .long sd, .int w]) (n := 8) (Nat.le_of_ble_eq_true rfl)
  rw [lg_entry_eq]
  generalize (lg_sl ([.ref b, .long sd, .int w]) ++ List.replicate (8 - (lg_sl ([.ref b, .long sd, .int w])).length) Slot.unset).toArray = ls at hl ⊢
  have hl : lv_has ls 8 [(0, .ref b), (1, .long sd), (3, .int w)] := hl
  have loop45 : ∀ (n : Nat) (k : Nat) (x : Int64) (M2 : Mo), k ≤ w.toNatClampNeg → k + n = w.toNatClampNeg + 1 → RI (mR M2) → RI (mN M2) → h_X7_simulate M sd w = lp_rSim w n k x M2 → ∀ (H : Heap) (locs : List Loc) (ls : Array Slot), Md G b M2 H → va_S (blk b (b + 8)) s.heap H locs → lv_has ls 8 [(0, .ref b), (1, .long sd), (3, .int w), (4, .long x), (6, .int (nI k))] → W p l e (headSpec wsX7_simulate ({ frames := 8, cells := 0, slots := 0, locals := 181 } : Room)).room s m ([.ref b, .long sd, .int w] : List Value).toArray below meth cd H locs 0 0 (MQ below (QM (some (.int ((h_X7_simulate M sd w).1))) (Md G b ((h_X7_simulate M sd w).2)) (blk b (b + 8))) ([.ref b, .long sd, .int w] : List Value).toArray s 0 0 (blk b (b + 8))) (F0 m 45 ls []) := by
    intro n
    induction n with
    | zero =>
      intro k x M2 hk hn hRI hRN hR H locs ls hP hS hl
      exact absurd hn (by omega)
    | succ n ih =>
      intro k x M2 hk hn hRI hRN hR H locs ls hP hS hl
      refine lv_iload hx hb dX7_simulate_45 (lv_at hl 4 rfl) ?_
      refine lv_iload_n hx hb dX7_simulate_47 rfl (lv_at hl 2 rfl) ?_
      refine lv_icmp_ge (tgt := 94) hx hb dX7_simulate_48 (by decide) (fun c_1 => ?_) (fun c_1 => ?_)
      · refine lv_sipush (v := 10000) hx hb dX7_simulate_94 (by decide) ?_
        refine lv_aload_n hx hb dX7_simulate_97 rfl (lv_at hl 0 rfl) ?_
        refine va_get (D := G.1) (ci := 5) (v := .ref (b + 3)) (C := RX7) (T := TX7) (N := 12) hx hb hts hin7 hown hO.1 hP 0 rfl rfl 4 (by decide) hf_16 (fun _ h9 => h9) rfl dX7_simulate_98 ?_
        refine lv_iconst (v := 0) hx hb dX7_simulate_101 (by decide) ?_
        refine cl_pi (rS (As := [.ref (b + 3), .int 0]) (rest := [.int 10000]) ⟨hx, hb, hml, hown, hts⟩ (c_X7_many l G (b + 3) (mR M2) 0 hRI.m.2) (va_cwS 2 hts gX7_simulate_X7_many rfl rfl rfl (by decide +kernel) ⟨Nat.le_of_ble_eq_true rfl, Nat.le_of_ble_eq_true rfl⟩) (va_P.sub hP [3] rfl) hO rfl hl.1 (Nat.le_of_ble_eq_true rfl) dX7_simulate_102 ⟨Nat.le_of_ble_eq_true rfl, Nat.le_of_ble_eq_true rfl⟩) ?_
        refine lv_imul hx hb dX7_simulate_105 ?_
        refine lv_bipush (v := 100) hx hb dX7_simulate_106 (by decide) ?_
        refine lv_aload_n hx hb dX7_simulate_108 rfl (lv_at hl 0 rfl) ?_
        refine va_get (D := G.1) (ci := 5) (v := .ref (b + 3)) (C := RX7) (T := TX7) (N := 12) hx hb hts hin7 hown hO.1 hP 0 rfl rfl 4 (by decide) hf_16 (fun _ h9 => h9) rfl dX7_simulate_109 ?_
        refine lv_iconst (v := 3) hx hb dX7_simulate_112 (by decide) ?_
        refine cl_pi (rS (As := [.ref (b + 3), .int 3]) (rest := [.int 100, .int (10000 * (f_X7_many (mR M2) 0))]) ⟨hx, hb, hml, hown, hts⟩ (c_X7_many l G (b + 3) (mR M2) 3 hRI.m.2) (va_cwS 2 hts gX7_simulate_X7_many rfl rfl rfl (by decide +kernel) ⟨Nat.le_of_ble_eq_true rfl, Nat.le_of_ble_eq_true rfl⟩) (va_P.sub hP [3] rfl) hO rfl hl.1 (Nat.le_of_ble_eq_true rfl) dX7_simulate_113 ⟨Nat.le_of_ble_eq_true rfl, Nat.le_of_ble_eq_true rfl⟩) ?_
        refine lv_aload_n hx hb dX7_simulate_116 rfl (lv_at hl 0 rfl) ?_
        refine va_get (D := G.1) (ci := 5) (v := .ref (b + 2)) (C := RX7) (T := TX7) (N := 12) hx hb hts hin7 hown hO.1 hP 0 rfl rfl 3 (by decide) hf_13 (fun _ h9 => h9) rfl dX7_simulate_117 ?_
        refine lv_iconst (v := 3) hx hb dX7_simulate_120 (by decide) ?_
        refine cl_pi (rS (As := [.ref (b + 2), .int 3]) (rest := [.int (f_X7_many (mR M2) 3), .int 100, .int (10000 * (f_X7_many (mR M2) 0))]) ⟨hx, hb, hml, hown, hts⟩ (c_X7_many l G (b + 2) (mN M2) 3 hRN.m.2) (va_cwS 2 hts gX7_simulate_X7_many rfl rfl rfl (by decide +kernel) ⟨Nat.le_of_ble_eq_true rfl, Nat.le_of_ble_eq_true rfl⟩) (va_P.sub hP [2] rfl) hO rfl hl.1 (Nat.le_of_ble_eq_true rfl) dX7_simulate_121 ⟨Nat.le_of_ble_eq_true rfl, Nat.le_of_ble_eq_true rfl⟩) ?_
        refine lv_isub hx hb dX7_simulate_124 ?_
        refine lv_imul hx hb dX7_simulate_125 ?_
        refine lv_iadd hx hb dX7_simulate_126 ?_
        refine lv_aload_n hx hb dX7_simulate_127 rfl (lv_at hl 0 rfl) ?_
        refine va_get (D := G.1) (ci := 5) (v := .ref (b + 3)) (C := RX7) (T := TX7) (N := 12) hx hb hts hin7 hown hO.1 hP 0 rfl rfl 4 (by decide) hf_16 (fun _ h9 => h9) rfl dX7_simulate_128 ?_
        refine lv_iconst (v := -1) hx hb dX7_simulate_131 (by decide) ?_
        refine cl_pi (rS (As := [.ref (b + 3), .int (-1)]) (rest := [.int ((10000 * (f_X7_many (mR M2) 0)) + (100 * ((f_X7_many (mR M2) 3) - (f_X7_many (mN M2) 3))))]) ⟨hx, hb, hml, hown, hts⟩ (c_X7_cellsWith l G (b + 3) (mR M2) (-1)) (va_cwS 2 hts gX7_simulate_X7_cellsWith rfl rfl rfl (by decide +kernel) ⟨Nat.le_of_ble_eq_true rfl, Nat.le_of_ble_eq_true rfl⟩) (va_P.sub hP [3] rfl) hO rfl hl.1 (Nat.le_of_ble_eq_true rfl) dX7_simulate_132 ⟨Nat.le_of_ble_eq_true rfl, Nat.le_of_ble_eq_true rfl⟩) ?_
        refine lv_iadd hx hb dX7_simulate_135 ?_
        have hE : h_X7_simulate M sd w = (((10000 * (f_X7_many (mR M2) 0)) + (100 * ((f_X7_many (mR M2) 3) - (f_X7_many (mN M2) 3)))) + (f_X7_cellsWith (mR M2) (-1)), M2) := (hR.trans (by rw [lp_rSim, if_pos c_1]))
        have hE2 := snd_of hE
        exact W.iret hx hb hr (fun t ht hW => ⟨by rw [fst_of hE], by rw [ht, hE2]; exact hP, hS.F ht⟩) hS.2.2 dX7_simulate_136
      · have hlt : k < w.toNatClampNeg := (by have h8 := clamp_lt w; exact kV c_1 (by omega))
        refine lv_lload hx hb dX7_simulate_51 (lv_at hl 3 rfl) ?_
        refine lv_ldc2 (v := 6364136223846793005) hx hb hown (hts (.constantLong RX7 85 (6364136223846793005)) (by decide +kernel)) dX7_simulate_53 ?_
        refine lv_lmul hx hb dX7_simulate_56 ?_
        refine lv_ldc2 (v := 1442695040888963407) hx hb hown (hts (.constantLong RX7 87 (1442695040888963407)) (by decide +kernel)) dX7_simulate_57 ?_
        refine lv_ladd hx hb dX7_simulate_60 ?_
        refine lv_lstore (lv' := [(4, .long ((x * 6364136223846793005) + 1442695040888963407)), (0, .ref b), (1, .long sd), (3, .int w), (6, .int (nI k))]) hx hb dX7_simulate_61 hl (by decide) rfl (fun ls hl => ?_)
        refine lv_lload hx hb dX7_simulate_63 (lv_at hl 0 rfl) ?_
        refine lv_bipush (v := 33) hx hb dX7_simulate_65 (by decide) ?_
        refine lv_lushr (v := jUshr ((x * 6364136223846793005) + 1442695040888963407) 33) hx hb dX7_simulate_67 rfl ?_
        refine lv_l2i (v := (jUshr ((x * 6364136223846793005) + 1442695040888963407) 33).toInt32) hx hb dX7_simulate_68 rfl ?_
        rw [(cl_self (ush_n _))]
        refine lv_istore (lv' := [(7, .int (nI (((jUshr ((x * 6364136223846793005) + 1442695040888963407) 33).toInt32).toNatClampNeg))), (4, .long ((x * 6364136223846793005) + 1442695040888963407)), (0, .ref b), (1, .long sd), (3, .int w), (6, .int (nI k))]) hx hb dX7_simulate_69 hl (by decide) rfl (fun ls hl => ?_)
        refine lv_aload_n hx hb dX7_simulate_71 rfl (lv_at hl 2 rfl) ?_
        refine va_get (D := G.1) (ci := 5) (v := .ref (b + 3)) (C := RX7) (T := TX7) (N := 12) hx hb hts hin7 hown hO.1 hP 0 rfl rfl 4 (by decide) hf_16 (fun _ h9 => h9) rfl dX7_simulate_72 ?_
        refine lv_iload hx hb dX7_simulate_75 (lv_at hl 0 rfl) ?_
        refine lv_bipush (v := 8) hx hb dX7_simulate_77 (by decide) ?_
        refine irem_n (a := ((jUshr ((x * 6364136223846793005) + 1442695040888963407) 33).toInt32).toNatClampNeg) (b := 8) hx hb ⟨clamp_lt _, by omega, by omega⟩ dX7_simulate_79 ?_
        refine lv_iload hx hb dX7_simulate_80 (lv_at hl 0 rfl) ?_
        refine lv_bipush (v := 8) hx hb dX7_simulate_82 (by decide) ?_
        refine idiv_n (a := ((jUshr ((x * 6364136223846793005) + 1442695040888963407) 33).toInt32).toNatClampNeg) (b := 8) hx hb ⟨clamp_lt _, by omega, by omega⟩ dX7_simulate_84 ?_
        refine cl_mv (rS (As := [.ref (b + 3), .int (nI ((((jUshr ((x * 6364136223846793005) + 1442695040888963407) 33).toInt32).toNatClampNeg) % 8)), .int (nI ((((jUshr ((x * 6364136223846793005) + 1442695040888963407) 33).toInt32).toNatClampNeg) / 8))]) (rest := []) ⟨hx, hb, hml, hown, hts⟩ (c_X7_turnOf l G (b + 3) (mR M2) (nI ((((jUshr ((x * 6364136223846793005) + 1442695040888963407) 33).toInt32).toNatClampNeg) % 8)) ((((jUshr ((x * 6364136223846793005) + 1442695040888963407) 33).toInt32).toNatClampNeg) / 8) hRI (by have h9 := clamp_lt (jUshr (x * 6364136223846793005 + 1442695040888963407) 33).toInt32; omega)) (va_cwS 3 hts gX7_simulate_X7_turnOf rfl rfl rfl (by decide +kernel) ⟨Nat.le_of_ble_eq_true rfl, Nat.le_of_ble_eq_true rfl⟩) (va_P.sub hP [3] rfl) hO rfl hl.1 (Nat.le_of_ble_eq_true rfl) dX7_simulate_85 ⟨Nat.le_of_ble_eq_true rfl, Nat.le_of_ble_eq_true rfl⟩) hS (fun q h => hA q (by simp only [one, blk] at *; omega)) (fun H locs hP1 hz hk hS => ?_)
        have hP : Md G b (oR M2 (h_X7_turnOf (mR M2) (nI ((((jUshr ((x * 6364136223846793005) + 1442695040888963407) 33).toInt32).toNatClampNeg) % 8)) ((((jUshr ((x * 6364136223846793005) + 1442695040888963407) 33).toInt32).toNatClampNeg) / 8))) H := md_pR (mo_row 3 hP rfl hP1 hk)
        refine lv_iinc (v := nI (k + 1)) (lv' := [(6, .int (nI (k + 1))), (7, .int (nI (((jUshr ((x * 6364136223846793005) + 1442695040888963407) 33).toInt32).toNatClampNeg))), (4, .long ((x * 6364136223846793005) + 1442695040888963407)), (0, .ref b), (1, .long sd), (3, .int w)]) hx hb dX7_simulate_88 hl (k := 5) rfl (nI_1 _) (by decide) rfl (fun ls hl => ?_)
        refine lv_goto (tgt := 45) hx hb dX7_simulate_91 (by decide) ?_
        have hE_2 : h_X7_simulate M sd w = lp_rSim w n (k + 1) ((x * 6364136223846793005) + 1442695040888963407) (oR M2 (h_X7_turnOf (mR M2) (nI ((((jUshr ((x * 6364136223846793005) + 1442695040888963407) 33).toInt32).toNatClampNeg) % 8)) ((((jUshr ((x * 6364136223846793005) + 1442695040888963407) 33).toInt32).toNatClampNeg) / 8))) := (hR.trans (by rw [lp_rSim, if_neg c_1]))
        exact ih (k + 1) ((x * 6364136223846793005) + 1442695040888963407) (oR M2 (h_X7_turnOf (mR M2) (nI ((((jUshr ((x * 6364136223846793005) + 1442695040888963407) 33).toInt32).toNatClampNeg) % 8)) ((((jUshr ((x * 6364136223846793005) + 1442695040888963407) 33).toInt32).toNatClampNeg) / 8))) (by omega) (by omega) (RI_oR (RI_turn hRI _ (by have h9 := clamp_lt (jUshr (x * 6364136223846793005 + 1442695040888963407) 33).toInt32; omega))) (RI_oRN hRN) hE_2 _ _ _ hP hS (lv_sub hl [3, 4, 5, 2, 0] rfl)
  refine lv_aload_n hx hb dX7_simulate_0 rfl (lv_at hl 0 rfl) ?_
  refine lv_iload_n hx hb dX7_simulate_1 rfl (lv_at hl 2 rfl) ?_
  refine lv_i2l (v := w.toInt64) hx hb dX7_simulate_2 rfl ?_
  refine lv_lconst (v := 1) hx hb dX7_simulate_3 (by decide) ?_
  refine lv_ldc2 (v := 60) hx hb hown (hts (.constantLong RX7 226 (60)) (by decide +kernel)) dX7_simulate_4 ?_
  refine cl_pi (rS (As := [.long w.toInt64, .long 1, .long 60]) (rest := [.ref b]) ⟨hx, hb, hml, hown, hts⟩ (c_X7_in l G w.toInt64 1 60) (va_cwS 3 hts gX7_simulate_X7_in rfl rfl rfl (by decide +kernel) ⟨Nat.le_of_ble_eq_true rfl, Nat.le_of_ble_eq_true rfl⟩) trivial hO rfl hl.1 (Nat.le_of_ble_eq_true rfl) dX7_simulate_7 ⟨Nat.le_of_ble_eq_true rfl, Nat.le_of_ble_eq_true rfl⟩) ?_
  refine lv_if_eq (tgt := 17) hx hb dX7_simulate_10 (by decide) (fun c_3 => ?_) (fun c_3 => ?_)
  · refine lv_iconst (v := 1) hx hb dX7_simulate_17 (by decide) ?_
    refine cl_mi (rV (As := [.int 1]) (rest := []) ⟨hx, hb, hml, hown, hts⟩ (c_X7_refused l G b M 1) (cwV 1 hts gX7_simulate_X7_refused rfl rfl rfl (by decide +kernel) ⟨Nat.le_of_ble_eq_true rfl, Nat.le_of_ble_eq_true rfl⟩) (md_recv hO hP) hP hO rfl hl.1 (Nat.le_of_ble_eq_true rfl) dX7_simulate_18 ⟨Nat.le_of_ble_eq_true rfl, Nat.le_of_ble_eq_true rfl⟩) hS hA (fun H locs hP1 hz hk hS => ?_)
    have hP : Md G b ((h_X7_refused M 1).2) H := hP1
    refine lv_if_eq (tgt := 26) hx hb dX7_simulate_21 (by decide) (fun c_4 => ?_) (fun c_4 => ?_)
    · exact absurd c_4 (ref_p1 _)
    · refine lv_iconst (v := 0) hx hb dX7_simulate_24 (by decide) ?_
      have hE : h_X7_simulate M sd w = (0, (h_X7_refused M 1).2) := (by rw [h_X7_simulate, if_pos c_3])
      have hE2 := snd_of hE
      exact W.iret hx hb hr (fun t ht hW => ⟨by rw [fst_of hE], by rw [ht, hE2]; exact hP, hS.F ht⟩) hS.2.2 dX7_simulate_25
  · refine lv_iconst (v := 0) hx hb dX7_simulate_13 (by decide) ?_
    refine lv_goto (tgt := 18) hx hb dX7_simulate_14 (by decide) ?_
    refine cl_mi (rV (As := [.int 0]) (rest := []) ⟨hx, hb, hml, hown, hts⟩ (c_X7_refused l G b M 0) (cwV 1 hts gX7_simulate_X7_refused rfl rfl rfl (by decide +kernel) ⟨Nat.le_of_ble_eq_true rfl, Nat.le_of_ble_eq_true rfl⟩) (md_recv hO hP) hP hO rfl hl.1 (Nat.le_of_ble_eq_true rfl) dX7_simulate_18 ⟨Nat.le_of_ble_eq_true rfl, Nat.le_of_ble_eq_true rfl⟩) hS hA (fun H locs hP1 hz hk hS => ?_)
    have hP : Md G b ((h_X7_refused M 0).2) H := hP1
    refine lv_if_eq (tgt := 26) hx hb dX7_simulate_21 (by decide) (fun c_5 => ?_) (fun c_5 => ?_)
    · refine lv_aload_n hx hb dX7_simulate_26 rfl (lv_at hl 0 rfl) ?_
      refine va_get (D := G.1) (ci := 5) (v := .ref (b + 2)) (C := RX7) (T := TX7) (N := 12) hx hb hts hin7 hown hO.1 hP 0 rfl rfl 3 (by decide) hf_13 (fun _ h9 => h9) rfl dX7_simulate_27 ?_
      refine lv_iconst (v := 0) hx hb dX7_simulate_30 (by decide) ?_
      refine lv_aload_n hx hb dX7_simulate_31 rfl (lv_at hl 0 rfl) ?_
      refine va_get (D := G.1) (ci := 5) (v := .ref (b + 3)) (C := RX7) (T := TX7) (N := 12) hx hb hts hin7 hown hO.1 hP 0 rfl rfl 4 (by decide) hf_16 (fun _ h9 => h9) rfl dX7_simulate_32 ?_
      refine lv_iconst (v := 0) hx hb dX7_simulate_35 (by decide) ?_
      refine cl_mv (rS (As := [.ref (b + 2), .int 0, .ref (b + 3), .int 0]) (rest := []) ⟨hx, hb, hml, hown, hts⟩ (c_X7_copyState l G (b + 2) 327 (mN ((h_X7_refused M 0).2)) (b + 3) 327 (mR ((h_X7_refused M 0).2)) 0 0 (by omega) (by omega) (by decide) (by decide) (by omega)) (va_cwS 4 hts gX7_simulate_X7_copyState rfl rfl rfl (by decide +kernel) ⟨Nat.le_of_ble_eq_true rfl, Nat.le_of_ble_eq_true rfl⟩) (va_P.sub hP [2, 3] rfl) hO rfl hl.1 (Nat.le_of_ble_eq_true rfl) dX7_simulate_36 ⟨Nat.le_of_ble_eq_true rfl, Nat.le_of_ble_eq_true rfl⟩) hS (fun q h => hA q (by simp only [two, blk] at *; omega)) (fun H locs hP1 hz hk hS => ?_)
      have hP : Md G b (oR ((h_X7_refused M 0).2) (h_X7_copyState (mN ((h_X7_refused M 0).2)) (mR ((h_X7_refused M 0).2)) 0 0)) H := md_pR (two_row 2 3 hP (md_D b ((h_X7_refused M 0).2) hA) rfl rfl hP1 hk)
      refine lv_lload_n hx hb dX7_simulate_39 rfl (lv_at hl 1 rfl) ?_
      refine lv_lstore (lv' := [(4, .long sd), (0, .ref b), (1, .long sd), (3, .int w)]) hx hb dX7_simulate_40 hl (by decide) rfl (fun ls hl => ?_)
      refine lv_iconst (v := 0) hx hb dX7_simulate_42 (by decide) ?_
      refine lv_istore (lv' := [(6, .int 0), (4, .long sd), (0, .ref b), (1, .long sd), (3, .int w)]) hx hb dX7_simulate_43 hl (by decide) rfl (fun ls hl => ?_)
      have hE_6 : h_X7_simulate M sd w = lp_rSim w (w.toNatClampNeg + 1) 0 sd (oR ((h_X7_refused M 0).2) (h_X7_copyState (mN ((h_X7_refused M 0).2)) (mR ((h_X7_refused M 0).2)) 0 0)) := (by rw [h_X7_simulate, if_neg c_3])
      exact loop45 (w.toNatClampNeg + 1) 0 sd (oR ((h_X7_refused M 0).2) (h_X7_copyState (mN ((h_X7_refused M 0).2)) (mR ((h_X7_refused M 0).2)) 0 0)) (Nat.zero_le _) (by omega) (RI_cpR hRI) (by rw [mN_oR, ref_N]; exact hRI) hE_6 _ _ _ hP hS (lv_sub hl [2, 3, 4, 1, 0] rfl)
    · exact absurd (ref_0 _) c_5
