theorem c_L_act (l : Launch) (G : GG) (b : Nat) (X : Cx) (M : Mo) (n : Nat) (hst : l.stackTraces = false) (RX : RelX X M) (CX : Ch X) (hn : n < 2 ^ 31) : Met l yL_act wsL_act ({ frames := 12, cells := 2, slots := 12, locals := 210 }) (PcN G (blk b (b + 170)) [.ref b, .int (nI n)] (Cb G b X)) (QM (some (.int ((fact M n).1))) (fun H => ∃ X1, Cb G b X1 H ∧ RelX X1 (fact M n).2 ∧ Ch X1) (blk b (b + 170))) 2 12 (blk b (b + 170)) := by
  have h16 : n % 16 < 16 := Nat.mod_lt _ (by decide)
  match hi : n % 16, h16 with
  | 0, _ => exact c_L_act_0 l G b X M n hst RX CX hn hi
  | 1, _ => exact c_L_act_1 l G b X M n hst RX CX hn hi
  | 2, _ => exact c_L_act_2 l G b X M n hst RX CX hn hi
  | 3, _ => exact c_L_act_3 l G b X M n hst RX CX hn hi
  | 4, _ => exact c_L_act_4 l G b X M n hst RX CX hn hi
  | 5, _ => exact c_L_act_5 l G b X M n hst RX CX hn hi
  | 6, _ => exact c_L_act_6 l G b X M n hst RX CX hn hi
  | 7, _ => exact c_L_act_7 l G b X M n hst RX CX hn hi
  | 8, _ => exact c_L_act_8 l G b X M n hst RX CX hn hi
  | 9, _ => exact c_L_act_9 l G b X M n hst RX CX hn hi
  | 10, _ => exact c_L_act_10 l G b X M n hst RX CX hn hi
  | 11, _ => exact c_L_act_11 l G b X M n hst RX CX hn hi
  | 12, _ => exact c_L_act_12 l G b X M n hst RX CX hn hi
  | 13, _ => exact c_L_act_13 l G b X M n hst RX CX hn hi
  | 14, _ => exact c_L_act_14 l G b X M n hst RX CX hn hi
  | 15, _ => exact c_L_act_15 l G b X M n hst RX CX hn hi
  | j + 16, h => exact absurd h (by omega)
