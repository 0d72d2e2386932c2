theorem dL_moves_465 : decode cL_moves 465 = .ok (.istore 6, 2) := by decide +kernel
theorem dL_moves_467 : decode cL_moves 467 = .ok (.iload 6, 2) := by decide +kernel
theorem dL_moves_469 : decode cL_moves 469 = .ok (.ireturn, 1) := by decide +kernel
abbrev vwCl : List vw_C := [(RX0, TX0, 3), (RX1, TX1, 2), (RX4, TX4, 14), (RX5, TX5, 2), (RX6, TX6, 5)]
