set_option maxRecDepth 20000 in
theorem gX6_undo_X0_isEmpty_n235 : GoodIn wsX6_undo (wsX0_isEmpty) := ggX6_undo_X0_isEmpty
set_option maxRecDepth 20000 in
theorem ggX6_undo_X0_takeBack : GoodIn wsX6_undo wsX0_takeBack := goodIn_r _ [12, 9, 13, 14, 15, 5, 7, 6, 8, 16, 17, 18, 19, 20, 21, 22, 23, 24, 25, 26, 27, 28, 29, 30, 31, 32, 33, 34, 35, 36, 37, 38, 39, 40, 41, 42, 48, 49, 50, 51, 52, 53, 54, 55, 56, 57, 58, 59, 60, 61, 62, 63, 64] rfl (by decide +kernel)
set_option maxRecDepth 20000 in
theorem gX6_undo_X0_takeBack_n240 : GoodIn wsX6_undo (wsX0_takeBack) := ggX6_undo_X0_takeBack
theorem dX6_undo_0 : decode cX6_undo 0 = .ok (.aload_n 0, 1) := by decide +kernel
theorem dX6_undo_1 : decode cX6_undo 1 = .ok (.getfield 29, 3) := by decide +kernel
theorem dX6_undo_4 : decode cX6_undo 4 = .ok (.invokevirtual 235, 3) := by decide +kernel
theorem dX6_undo_7 : decode cX6_undo 7 = .ok (.ifCond .eq 13, 3) := by decide +kernel
theorem dX6_undo_10 : decode cX6_undo 10 = .ok (.new 51, 3) := by decide +kernel
theorem dX6_undo_13 : decode cX6_undo 13 = .ok (.dup, 1) := by decide +kernel
theorem dX6_undo_14 : decode cX6_undo 14 = .ok (.ldc 238, 2) := by decide +kernel
theorem dX6_undo_16 : decode cX6_undo 16 = .ok (.invokespecial 55, 3) := by decide +kernel
theorem dX6_undo_19 : decode cX6_undo 19 = .ok (.athrow, 1) := by decide +kernel
theorem dX6_undo_20 : decode cX6_undo 20 = .ok (.aload_n 0, 1) := by decide +kernel
theorem dX6_undo_21 : decode cX6_undo 21 = .ok (.getfield 29, 3) := by decide +kernel
theorem dX6_undo_24 : decode cX6_undo 24 = .ok (.aload_n 0, 1) := by decide +kernel
theorem dX6_undo_25 : decode cX6_undo 25 = .ok (.getfield 19, 3) := by decide +kernel
theorem dX6_undo_28 : decode cX6_undo 28 = .ok (.invokevirtual 240, 3) := by decide +kernel
theorem dX6_undo_31 : decode cX6_undo 31 = .ok (.ireturn, 1) := by decide +kernel
set_option maxRecDepth 20000 in
theorem ggX6_why_X6_requireLength : GoodIn wsX6_why wsX6_requireLength := goodIn_ca (goodIn_r _ [5, 6, 7, 8, 9, 4, 10] rfl (by decide +kernel)) (goodIn_sub (fun _ h => List.mem_cons_of_mem _ (List.mem_append_right _ h)) (by decide +kernel))
set_option maxRecDepth 20000 in
theorem gX6_why_X6_requireLength : GoodIn wsX6_why (va_wsS RX6 187 yX6_requireLength wsX6_requireLength) := goodIn_app (goodIn_r _ [2, 3, 4] rfl (by decide +kernel)) ggX6_why_X6_requireLength
set_option maxRecDepth 20000 in
theorem ggX6_why_X4_reasonAgainst : GoodIn wsX6_why wsX4_reasonAgainst := goodIn_r _ [14, 15, 16, 17, 18, 12, 19, 20, 26, 27, 28, 29, 30, 31, 32, 33, 34, 35, 36, 37, 38, 39] rfl (by decide +kernel)
set_option maxRecDepth 20000 in
theorem gX6_why_X4_reasonAgainst_n244 : GoodIn wsX6_why (wsX4_reasonAgainst) := ggX6_why_X4_reasonAgainst
theorem dX6_why_0 : decode cX6_why 0 = .ok (.iload_n 1, 1) := by decide +kernel
theorem dX6_why_1 : decode cX6_why 1 = .ok (.invokestatic 187, 3) := by decide +kernel
theorem dX6_why_4 : decode cX6_why 4 = .ok (.aload_n 0, 1) := by decide +kernel
theorem dX6_why_5 : decode cX6_why 5 = .ok (.getfield 19, 3) := by decide +kernel
theorem dX6_why_8 : decode cX6_why 8 = .ok (.iload_n 1, 1) := by decide +kernel
theorem dX6_why_9 : decode cX6_why 9 = .ok (.invokevirtual 244, 3) := by decide +kernel
theorem dX6_why_12 : decode cX6_why 12 = .ok (.ireturn, 1) := by decide +kernel
set_option maxRecDepth 20000 in
theorem ggX6_place_X6_requireLength : GoodIn wsX6_place wsX6_requireLength := goodIn_ca (goodIn_r _ [5, 6, 7, 8, 9, 4, 10] rfl (by decide +kernel)) (goodIn_sub (fun _ h => List.mem_cons_of_mem _ (List.mem_append_right _ h)) (by decide +kernel))
set_option maxRecDepth 20000 in
theorem gX6_place_X6_requireLength : GoodIn wsX6_place (va_wsS RX6 187 yX6_requireLength wsX6_requireLength) := goodIn_app (goodIn_r _ [2, 3, 4] rfl (by decide +kernel)) ggX6_place_X6_requireLength
set_option maxRecDepth 20000 in
theorem ggX6_place_X4_chosenPlace : GoodIn wsX6_place wsX4_chosenPlace := goodIn_r _ [14, 15, 16, 17, 4, 18, 19, 20, 21, 22, 23, 12, 24, 25, 26, 27, 28, 29, 30, 31, 32, 33, 34, 40, 41, 42, 43, 44, 45, 46, 47, 48, 49, 50, 51, 52, 53] rfl (by decide +kernel)
set_option maxRecDepth 20000 in
theorem gX6_place_X4_chosenPlace_n247 : GoodIn wsX6_place (wsX4_chosenPlace) := ggX6_place_X4_chosenPlace
theorem dX6_place_0 : decode cX6_place 0 = .ok (.iload_n 1, 1) := by decide +kernel
theorem dX6_place_1 : decode cX6_place 1 = .ok (.invokestatic 187, 3) := by decide +kernel
theorem dX6_place_4 : decode cX6_place 4 = .ok (.aload_n 0, 1) := by decide +kernel
theorem dX6_place_5 : decode cX6_place 5 = .ok (.getfield 19, 3) := by decide +kernel
theorem dX6_place_8 : decode cX6_place 8 = .ok (.iload_n 1, 1) := by decide +kernel
theorem dX6_place_9 : decode cX6_place 9 = .ok (.invokevirtual 247, 3) := by decide +kernel
theorem dX6_place_12 : decode cX6_place 12 = .ok (.ireturn, 1) := by decide +kernel
set_option maxRecDepth 20000 in
theorem ggX6_fits_X6_requireLength : GoodIn wsX6_fits wsX6_requireLength := goodIn_ca (goodIn_r _ [6, 7, 8, 9, 10, 5, 11] rfl (by decide +kernel)) (goodIn_sub (fun _ h => List.mem_cons_of_mem _ (List.mem_append_right _ h)) (by decide +kernel))
set_option maxRecDepth 20000 in
theorem gX6_fits_X6_requireLength : GoodIn wsX6_fits (va_wsS RX6 187 yX6_requireLength wsX6_requireLength) := goodIn_app (goodIn_r _ [3, 4, 5] rfl (by decide +kernel)) ggX6_fits_X6_requireLength
set_option maxRecDepth 20000 in
theorem ggX6_fits_X6_requireZeroOrOne : GoodIn wsX6_fits wsX6_requireZeroOrOne := goodIn_ca (goodIn_r _ [14, 7, 8] rfl (by decide +kernel)) (goodIn_sub (fun _ h => List.mem_cons_of_mem _ (List.mem_append_right _ h)) (by decide +kernel))
set_option maxRecDepth 20000 in
theorem gX6_fits_X6_requireZeroOrOne : GoodIn wsX6_fits (va_wsS RX6 162 yX6_requireZeroOrOne wsX6_requireZeroOrOne) := goodIn_app (goodIn_r _ [12, 13, 5] rfl (by decide +kernel)) ggX6_fits_X6_requireZeroOrOne
set_option maxRecDepth 20000 in
theorem ggX6_fits_X4_fittingByGaps : GoodIn wsX6_fits wsX4_fittingByGaps := goodIn_r _ [18, 19, 20, 84, 85, 86, 87, 88, 89, 90, 91, 92, 93, 94, 95, 96, 97] rfl (by decide +kernel)
set_option maxRecDepth 20000 in
theorem gX6_fits_X4_fittingByGaps_n250 : GoodIn wsX6_fits (wsX4_fittingByGaps) := ggX6_fits_X4_fittingByGaps
set_option maxRecDepth 20000 in
theorem ggX6_fits_X4_copyFrom : GoodIn wsX6_fits wsX4_copyFrom := goodIn_r _ [23, 24, 19, 25, 26, 27, 28, 29, 30, 31, 32, 33, 34, 20, 35, 36, 5, 37, 38, 39, 40, 41, 84, 85, 86, 87, 88, 89, 90, 91, 92, 93, 94, 95, 96, 97] rfl (by decide +kernel)
set_option maxRecDepth 20000 in
theorem gX6_fits_X4_copyFrom_n253 : GoodIn wsX6_fits (wsX4_copyFrom) := ggX6_fits_X4_copyFrom
set_option maxRecDepth 20000 in
theorem ggX6_fits_X4_fillWith : GoodIn wsX6_fits wsX4_fillWith := goodIn_r _ [44, 45, 46, 47, 16, 48, 34, 33, 49, 5, 50, 51, 52, 53, 54, 55, 56, 19, 20, 57, 58, 59, 60, 61, 62, 63, 64, 65, 66, 67, 68, 69, 70, 71, 72, 24, 73, 74, 75, 76, 77, 78, 84, 85, 86, 87, 88, 89, 90, 91, 92, 93, 94, 95, 96, 97] rfl (by decide +kernel)
set_option maxRecDepth 20000 in
theorem gX6_fits_X4_fillWith_n259 : GoodIn wsX6_fits (wsX4_fillWith) := ggX6_fits_X4_fillWith
theorem dX6_fits_0 : decode cX6_fits 0 = .ok (.iload_n 1, 1) := by decide +kernel
theorem dX6_fits_1 : decode cX6_fits 1 = .ok (.invokestatic 187, 3) := by decide +kernel
theorem dX6_fits_4 : decode cX6_fits 4 = .ok (.iload_n 2, 1) := by decide +kernel
theorem dX6_fits_5 : decode cX6_fits 5 = .ok (.invokestatic 162, 3) := by decide +kernel
theorem dX6_fits_8 : decode cX6_fits 8 = .ok (.iload_n 2, 1) := by decide +kernel
theorem dX6_fits_9 : decode cX6_fits 9 = .ok (.iconst 1, 1) := by decide +kernel
theorem dX6_fits_10 : decode cX6_fits 10 = .ok (.if_icmp .ne 12, 3) := by decide +kernel
theorem dX6_fits_13 : decode cX6_fits 13 = .ok (.aload_n 0, 1) := by decide +kernel
theorem dX6_fits_14 : decode cX6_fits 14 = .ok (.getfield 19, 3) := by decide +kernel
theorem dX6_fits_17 : decode cX6_fits 17 = .ok (.iload_n 1, 1) := by decide +kernel
theorem dX6_fits_18 : decode cX6_fits 18 = .ok (.invokevirtual 250, 3) := by decide +kernel
theorem dX6_fits_21 : decode cX6_fits 21 = .ok (.ireturn, 1) := by decide +kernel
theorem dX6_fits_22 : decode cX6_fits 22 = .ok (.aload_n 0, 1) := by decide +kernel
theorem dX6_fits_23 : decode cX6_fits 23 = .ok (.getfield 23, 3) := by decide +kernel
theorem dX6_fits_26 : decode cX6_fits 26 = .ok (.aload_n 0, 1) := by decide +kernel
theorem dX6_fits_27 : decode cX6_fits 27 = .ok (.getfield 19, 3) := by decide +kernel
theorem dX6_fits_30 : decode cX6_fits 30 = .ok (.invokevirtual 253, 3) := by decide +kernel
theorem dX6_fits_33 : decode cX6_fits 33 = .ok (.aload_n 0, 1) := by decide +kernel
theorem dX6_fits_34 : decode cX6_fits 34 = .ok (.getfield 23, 3) := by decide +kernel
theorem dX6_fits_37 : decode cX6_fits 37 = .ok (.iconst 0, 1) := by decide +kernel
theorem dX6_fits_38 : decode cX6_fits 38 = .ok (.putfield 256, 3) := by decide +kernel
theorem dX6_fits_41 : decode cX6_fits 41 = .ok (.aload_n 0, 1) := by decide +kernel
theorem dX6_fits_42 : decode cX6_fits 42 = .ok (.getfield 23, 3) := by decide +kernel
theorem dX6_fits_45 : decode cX6_fits 45 = .ok (.iload_n 1, 1) := by decide +kernel
theorem dX6_fits_46 : decode cX6_fits 46 = .ok (.invokevirtual 259, 3) := by decide +kernel
theorem dX6_fits_49 : decode cX6_fits 49 = .ok (.ireturn, 1) := by decide +kernel
set_option maxRecDepth 20000 in
theorem ggX6_gapIn_X6_requireLength : GoodIn wsX6_gapIn wsX6_requireLength := goodIn_ca (goodIn_r _ [6, 7, 8, 9, 10, 5, 11] rfl (by decide +kernel)) (goodIn_sub (fun _ h => List.mem_cons_of_mem _ (List.mem_append_right _ h)) (by decide +kernel))
set_option maxRecDepth 20000 in
theorem gX6_gapIn_X6_requireLength : GoodIn wsX6_gapIn (va_wsS RX6 187 yX6_requireLength wsX6_requireLength) := goodIn_app (goodIn_r _ [3, 4, 5] rfl (by decide +kernel)) ggX6_gapIn_X6_requireLength
set_option maxRecDepth 20000 in
theorem ggX6_gapIn_X4_copyFrom : GoodIn wsX6_gapIn wsX4_copyFrom := goodIn_r _ [15, 16, 17, 18, 19, 20, 21, 22, 23, 24, 25, 26, 27, 28, 29, 30, 5, 31, 32, 33, 34, 35, 121, 122, 123, 124, 125, 126, 127, 128, 129, 130, 131, 132, 133, 134] rfl (by decide +kernel)
set_option maxRecDepth 20000 in
theorem gX6_gapIn_X4_copyFrom_n253 : GoodIn wsX6_gapIn (wsX4_copyFrom) := ggX6_gapIn_X4_copyFrom
set_option maxRecDepth 20000 in
theorem ggX6_gapIn_X4_reasonAgainst : GoodIn wsX6_gapIn wsX4_reasonAgainst := goodIn_r _ [38, 28, 39, 40, 41, 13, 42, 17, 121, 122, 123, 124, 125, 126, 127, 128, 129, 130, 131, 132, 133, 134] rfl (by decide +kernel)
set_option maxRecDepth 20000 in
theorem gX6_gapIn_X4_reasonAgainst_n244 : GoodIn wsX6_gapIn (wsX4_reasonAgainst) := ggX6_gapIn_X4_reasonAgainst
set_option maxRecDepth 20000 in
theorem ggX6_gapIn_X4_passMinutes : GoodIn wsX6_gapIn wsX4_passMinutes := goodIn_r _ [45, 25, 46, 5, 47, 48, 49, 50, 13, 51, 24, 22, 52, 53, 54, 55, 20, 56, 57, 58, 59, 60, 61, 62, 63, 64, 65, 66, 67, 19, 68, 69, 70, 71, 21, 18, 72, 73, 74, 75, 16, 76, 77, 78, 79, 17, 80, 81, 82, 83, 84, 85, 86, 87, 88, 89, 90, 91, 27, 26, 92, 93, 94, 95, 96, 97, 98, 99, 28, 100, 101, 102, 103, 104, 105, 106, 107, 108, 109, 110, 111, 112, 113, 114, 115, 23, 29, 121, 122, 123, 124, 125, 126, 127, 128, 129, 130, 131, 132, 133, 134] rfl (by decide +kernel)
set_option maxRecDepth 20000 in
theorem gX6_gapIn_X4_passMinutes_n224 : GoodIn wsX6_gapIn (wsX4_passMinutes) := ggX6_gapIn_X4_passMinutes
theorem dX6_gapIn_0 : decode cX6_gapIn 0 = .ok (.iload_n 1, 1) := by decide +kernel
theorem dX6_gapIn_1 : decode cX6_gapIn 1 = .ok (.invokestatic 187, 3) := by decide +kernel
theorem dX6_gapIn_4 : decode cX6_gapIn 4 = .ok (.aload_n 0, 1) := by decide +kernel
theorem dX6_gapIn_5 : decode cX6_gapIn 5 = .ok (.getfield 23, 3) := by decide +kernel
theorem dX6_gapIn_8 : decode cX6_gapIn 8 = .ok (.aload_n 0, 1) := by decide +kernel
theorem dX6_gapIn_9 : decode cX6_gapIn 9 = .ok (.getfield 19, 3) := by decide +kernel
theorem dX6_gapIn_12 : decode cX6_gapIn 12 = .ok (.invokevirtual 253, 3) := by decide +kernel
theorem dX6_gapIn_15 : decode cX6_gapIn 15 = .ok (.iconst 0, 1) := by decide +kernel
theorem dX6_gapIn_16 : decode cX6_gapIn 16 = .ok (.istore_n 2, 1) := by decide +kernel
theorem dX6_gapIn_17 : decode cX6_gapIn 17 = .ok (.iload_n 2, 1) := by decide +kernel
theorem dX6_gapIn_18 : decode cX6_gapIn 18 = .ok (.bipush 100, 2) := by decide +kernel
theorem dX6_gapIn_20 : decode cX6_gapIn 20 = .ok (.if_icmp .gt 31, 3) := by decide +kernel
theorem dX6_gapIn_23 : decode cX6_gapIn 23 = .ok (.aload_n 0, 1) := by decide +kernel
theorem dX6_gapIn_24 : decode cX6_gapIn 24 = .ok (.getfield 23, 3) := by decide +kernel
theorem dX6_gapIn_27 : decode cX6_gapIn 27 = .ok (.iload_n 1, 1) := by decide +kernel
theorem dX6_gapIn_28 : decode cX6_gapIn 28 = .ok (.invokevirtual 244, 3) := by decide +kernel
theorem dX6_gapIn_31 : decode cX6_gapIn 31 = .ok (.ifCond .ne 5, 3) := by decide +kernel
theorem dX6_gapIn_34 : decode cX6_gapIn 34 = .ok (.iload_n 2, 1) := by decide +kernel
theorem dX6_gapIn_35 : decode cX6_gapIn 35 = .ok (.ireturn, 1) := by decide +kernel
theorem dX6_gapIn_36 : decode cX6_gapIn 36 = .ok (.aload_n 0, 1) := by decide +kernel
theorem dX6_gapIn_37 : decode cX6_gapIn 37 = .ok (.getfield 23, 3) := by decide +kernel
theorem dX6_gapIn_40 : decode cX6_gapIn 40 = .ok (.iconst 1, 1) := by decide +kernel
theorem dX6_gapIn_41 : decode cX6_gapIn 41 = .ok (.invokevirtual 224, 3) := by decide +kernel
theorem dX6_gapIn_44 : decode cX6_gapIn 44 = .ok (.pop, 1) := by decide +kernel
theorem dX6_gapIn_45 : decode cX6_gapIn 45 = .ok (.iinc 2 1, 3) := by decide +kernel
theorem dX6_gapIn_48 : decode cX6_gapIn 48 = .ok (.goto (-31), 3) := by decide +kernel
theorem dX6_gapIn_51 : decode cX6_gapIn 51 = .ok (.iconst (-1), 1) := by decide +kernel
theorem dX6_gapIn_52 : decode cX6_gapIn 52 = .ok (.ireturn, 1) := by decide +kernel
set_option maxRecDepth 20000 in
theorem ggX6_mover_X6_requireLength : GoodIn wsX6_mover wsX6_requireLength := goodIn_ca (goodIn_r _ [5, 6, 7, 8, 9, 4, 10] rfl (by decide +kernel)) (goodIn_sub (fun _ h => List.mem_cons_of_mem _ (List.mem_append_right _ h)) (by decide +kernel))
set_option maxRecDepth 20000 in
theorem gX6_mover_X6_requireLength : GoodIn wsX6_mover (va_wsS RX6 187 yX6_requireLength wsX6_requireLength) := goodIn_app (goodIn_r _ [2, 3, 4] rfl (by decide +kernel)) ggX6_mover_X6_requireLength
set_option maxRecDepth 20000 in
theorem ggX6_mover_X6_requireZeroOrOne : GoodIn wsX6_mover wsX6_requireZeroOrOne := goodIn_ca (goodIn_r _ [13, 6, 7] rfl (by decide +kernel)) (goodIn_sub (fun _ h => List.mem_cons_of_mem _ (List.mem_append_right _ h)) (by decide +kernel))
set_option maxRecDepth 20000 in
theorem gX6_mover_X6_requireZeroOrOne : GoodIn wsX6_mover (va_wsS RX6 162 yX6_requireZeroOrOne wsX6_requireZeroOrOne) := goodIn_app (goodIn_r _ [11, 12, 4] rfl (by decide +kernel)) ggX6_mover_X6_requireZeroOrOne
set_option maxRecDepth 20000 in
theorem ggX6_mover_X4_carToShift : GoodIn wsX6_mover wsX4_carToShift := goodIn_r _ [17, 18, 19, 20, 21, 22, 15, 23, 24, 25, 26, 27, 28, 29, 30, 31, 32, 33, 34, 35, 36, 37, 38, 4, 39, 40, 41, 42, 43, 44, 45, 46, 47, 48, 49, 50, 51, 52, 53, 54, 55, 56, 65, 66, 67, 68, 69, 70, 71, 72, 73, 74, 75, 76, 77, 78] rfl (by decide +kernel)
set_option maxRecDepth 20000 in
theorem gX6_mover_X4_carToShift_n262 : GoodIn wsX6_mover (wsX4_carToShift) := ggX6_mover_X4_carToShift
set_option maxRecDepth 20000 in
theorem ggX6_mover_X4_placeToShiftTo : GoodIn wsX6_mover wsX4_placeToShiftTo := goodIn_r _ [59, 44, 19, 40, 41, 42, 15, 43, 38, 4, 39, 45, 46, 47, 48, 49, 50, 51, 52, 53, 54, 55, 56, 65, 66, 67, 68, 69, 70, 71, 72, 73, 74, 75, 76, 77, 78] rfl (by decide +kernel)
set_option maxRecDepth 20000 in
theorem gX6_mover_X4_placeToShiftTo_n265 : GoodIn wsX6_mover (wsX4_placeToShiftTo) := ggX6_mover_X4_placeToShiftTo
theorem dX6_mover_0 : decode cX6_mover 0 = .ok (.iload_n 1, 1) := by decide +kernel
theorem dX6_mover_1 : decode cX6_mover 1 = .ok (.invokestatic 187, 3) := by decide +kernel
theorem dX6_mover_4 : decode cX6_mover 4 = .ok (.iload_n 2, 1) := by decide +kernel
theorem dX6_mover_5 : decode cX6_mover 5 = .ok (.invokestatic 162, 3) := by decide +kernel
theorem dX6_mover_8 : decode cX6_mover 8 = .ok (.aload_n 0, 1) := by decide +kernel
theorem dX6_mover_9 : decode cX6_mover 9 = .ok (.getfield 19, 3) := by decide +kernel
theorem dX6_mover_12 : decode cX6_mover 12 = .ok (.iload_n 1, 1) := by decide +kernel
theorem dX6_mover_13 : decode cX6_mover 13 = .ok (.invokevirtual 262, 3) := by decide +kernel
theorem dX6_mover_16 : decode cX6_mover 16 = .ok (.istore_n 3, 1) := by decide +kernel
theorem dX6_mover_17 : decode cX6_mover 17 = .ok (.iload_n 2, 1) := by decide +kernel
theorem dX6_mover_18 : decode cX6_mover 18 = .ok (.ifCond .eq 8, 3) := by decide +kernel
theorem dX6_mover_21 : decode cX6_mover 21 = .ok (.iload_n 3, 1) := by decide +kernel
theorem dX6_mover_22 : decode cX6_mover 22 = .ok (.iconst (-1), 1) := by decide +kernel
theorem dX6_mover_23 : decode cX6_mover 23 = .ok (.if_icmp .ne 7, 3) := by decide +kernel
theorem dX6_mover_26 : decode cX6_mover 26 = .ok (.iload_n 3, 1) := by decide +kernel
theorem dX6_mover_27 : decode cX6_mover 27 = .ok (.goto 12, 3) := by decide +kernel
theorem dX6_mover_30 : decode cX6_mover 30 = .ok (.aload_n 0, 1) := by decide +kernel
theorem dX6_mover_31 : decode cX6_mover 31 = .ok (.getfield 19, 3) := by decide +kernel
theorem dX6_mover_34 : decode cX6_mover 34 = .ok (.iload_n 3, 1) := by decide +kernel
theorem dX6_mover_35 : decode cX6_mover 35 = .ok (.iload_n 1, 1) := by decide +kernel
theorem dX6_mover_36 : decode cX6_mover 36 = .ok (.invokevirtual 265, 3) := by decide +kernel
theorem dX6_mover_39 : decode cX6_mover 39 = .ok (.ireturn, 1) := by decide +kernel
set_option maxRecDepth 20000 in
theorem ggX6_jam_X6_requireLength : GoodIn wsX6_jam wsX6_requireLength := goodIn_ca (goodIn_r _ [6, 7, 8, 9, 10, 5, 11] rfl (by decide +kernel)) (goodIn_sub (fun _ h => List.mem_cons_of_mem _ (List.mem_append_right _ h)) (by decide +kernel))
set_option maxRecDepth 20000 in
theorem gX6_jam_X6_requireLength : GoodIn wsX6_jam (va_wsS RX6 187 yX6_requireLength wsX6_requireLength) := goodIn_app (goodIn_r _ [3, 4, 5] rfl (by decide +kernel)) ggX6_jam_X6_requireLength
set_option maxRecDepth 20000 in
theorem ggX6_jam_X4_copyFrom : GoodIn wsX6_jam wsX4_copyFrom := goodIn_r _ [15, 16, 17, 18, 19, 20, 21, 22, 23, 24, 25, 26, 27, 28, 29, 30, 5, 31, 32, 33, 34, 35, 78, 79, 80, 81, 82, 83, 84, 85, 86, 87, 88, 89, 90, 91] rfl (by decide +kernel)
set_option maxRecDepth 20000 in
theorem gX6_jam_X4_copyFrom_n253 : GoodIn wsX6_jam (wsX4_copyFrom) := ggX6_jam_X4_copyFrom
set_option maxRecDepth 20000 in
theorem ggX6_jam_X4_fillWith : GoodIn wsX6_jam wsX4_fillWith := goodIn_r _ [38, 39, 40, 41, 13, 42, 27, 26, 43, 5, 44, 45, 46, 47, 48, 49, 50, 17, 28, 51, 52, 53, 54, 55, 56, 57, 58, 59, 60, 61, 62, 63, 64, 65, 66, 16, 67, 68, 69, 70, 71, 72, 78, 79, 80, 81, 82, 83, 84, 85, 86, 87, 88, 89, 90, 91] rfl (by decide +kernel)
set_option maxRecDepth 20000 in
theorem gX6_jam_X4_fillWith_n259 : GoodIn wsX6_jam (wsX4_fillWith) := ggX6_jam_X4_fillWith
theorem dX6_jam_0 : decode cX6_jam 0 = .ok (.iload_n 1, 1) := by decide +kernel
theorem dX6_jam_1 : decode cX6_jam 1 = .ok (.invokestatic 187, 3) := by decide +kernel
theorem dX6_jam_4 : decode cX6_jam 4 = .ok (.aload_n 0, 1) := by decide +kernel
theorem dX6_jam_5 : decode cX6_jam 5 = .ok (.getfield 23, 3) := by decide +kernel
theorem dX6_jam_8 : decode cX6_jam 8 = .ok (.aload_n 0, 1) := by decide +kernel
theorem dX6_jam_9 : decode cX6_jam 9 = .ok (.getfield 19, 3) := by decide +kernel
theorem dX6_jam_12 : decode cX6_jam 12 = .ok (.invokevirtual 253, 3) := by decide +kernel
theorem dX6_jam_15 : decode cX6_jam 15 = .ok (.aload_n 0, 1) := by decide +kernel
theorem dX6_jam_16 : decode cX6_jam 16 = .ok (.getfield 23, 3) := by decide +kernel
theorem dX6_jam_19 : decode cX6_jam 19 = .ok (.iconst 2, 1) := by decide +kernel
theorem dX6_jam_20 : decode cX6_jam 20 = .ok (.putfield 256, 3) := by decide +kernel
theorem dX6_jam_23 : decode cX6_jam 23 = .ok (.aload_n 0, 1) := by decide +kernel
theorem dX6_jam_24 : decode cX6_jam 24 = .ok (.getfield 23, 3) := by decide +kernel
theorem dX6_jam_27 : decode cX6_jam 27 = .ok (.lload_n 2, 1) := by decide +kernel
theorem dX6_jam_28 : decode cX6_jam 28 = .ok (.putfield 268, 3) := by decide +kernel
theorem dX6_jam_31 : decode cX6_jam 31 = .ok (.aload_n 0, 1) := by decide +kernel
theorem dX6_jam_32 : decode cX6_jam 32 = .ok (.getfield 23, 3) := by decide +kernel
theorem dX6_jam_35 : decode cX6_jam 35 = .ok (.iload_n 1, 1) := by decide +kernel
theorem dX6_jam_36 : decode cX6_jam 36 = .ok (.invokevirtual 259, 3) := by decide +kernel
theorem dX6_jam_39 : decode cX6_jam 39 = .ok (.ireturn, 1) := by decide +kernel
set_option maxRecDepth 20000 in
theorem ggX6_runScript_X4_copyFrom : GoodIn wsX6_runScript wsX4_copyFrom := goodIn_r _ [9, 10, 11, 12, 13, 14, 15, 16, 17, 18, 19, 20, 21, 22, 23, 24, 25, 26, 27, 28, 29, 30, 170, 171, 172, 173, 174, 175, 176, 177, 178, 179, 180, 181, 182, 183] rfl (by decide +kernel)
set_option maxRecDepth 20000 in
theorem gX6_runScript_X4_copyFrom_n253 : GoodIn wsX6_runScript (wsX4_copyFrom) := ggX6_runScript_X4_copyFrom
set_option maxRecDepth 20000 in
theorem ggX6_runScript_X2_succeeds : GoodIn wsX6_runScript wsX2_succeeds := goodIn_r _ [33, 34, 35, 36, 32, 37, 38, 7, 39, 40, 18, 12, 13, 14, 15, 16, 17, 41, 25, 42, 43, 44, 45, 46, 47, 48, 49, 50, 51, 52, 53, 54, 55, 56, 57, 58, 59, 60, 21, 20, 61, 62, 63, 64, 65, 66, 67, 68, 11, 22, 69, 70, 71, 72, 73, 74, 75, 76, 77, 78, 79, 80, 81, 82, 83, 84, 10, 85, 86, 87, 88, 89, 90, 91, 92, 93, 94, 95, 96, 97, 98, 99, 100, 101, 102, 103, 104, 105, 106, 107, 108, 109, 110, 111, 112, 113, 114, 115, 19, 116, 117, 118, 119, 120, 121, 122, 123, 124, 125, 126, 127, 128, 129, 130, 131, 132, 133, 134, 23, 135, 136, 137, 138, 139, 140, 141, 142, 143, 144, 145, 146, 147, 148, 149, 150, 151, 152, 153, 154, 155, 156, 157, 158, 159, 160, 161, 162, 163, 164, 170, 171, 172, 173, 174, 175, 176, 177, 178, 179, 180, 181, 182, 183] rfl (by decide +kernel)
set_option maxRecDepth 20000 in
theorem gX6_runScript_X2_succeeds_n278 : GoodIn wsX6_runScript (wsX2_succeeds) := ggX6_runScript_X2_succeeds
theorem dX6_runScript_0 : decode cX6_runScript 0 = .ok (.iload_n 1, 1) := by decide +kernel
theorem dX6_runScript_1 : decode cX6_runScript 1 = .ok (.iconst 1, 1) := by decide +kernel
theorem dX6_runScript_2 : decode cX6_runScript 2 = .ok (.if_icmp .lt 8, 3) := by decide +kernel
theorem dX6_runScript_5 : decode cX6_runScript 5 = .ok (.iload_n 1, 1) := by decide +kernel
theorem dX6_runScript_6 : decode cX6_runScript 6 = .ok (.iconst 3, 1) := by decide +kernel
theorem dX6_runScript_7 : decode cX6_runScript 7 = .ok (.if_icmp .le 14, 3) := by decide +kernel
theorem dX6_runScript_10 : decode cX6_runScript 10 = .ok (.new 40, 3) := by decide +kernel
theorem dX6_runScript_13 : decode cX6_runScript 13 = .ok (.dup, 1) := by decide +kernel
theorem dX6_runScript_14 : decode cX6_runScript 14 = .ok (.ldc_w 272, 3) := by decide +kernel
theorem dX6_runScript_17 : decode cX6_runScript 17 = .ok (.invokespecial 44, 3) := by decide +kernel
theorem dX6_runScript_20 : decode cX6_runScript 20 = .ok (.athrow, 1) := by decide +kernel
theorem dX6_runScript_21 : decode cX6_runScript 21 = .ok (.lconst 1, 1) := by decide +kernel
theorem dX6_runScript_22 : decode cX6_runScript 22 = .ok (.lstore 4, 2) := by decide +kernel
theorem dX6_runScript_24 : decode cX6_runScript 24 = .ok (.iconst 1, 1) := by decide +kernel
theorem dX6_runScript_25 : decode cX6_runScript 25 = .ok (.istore 6, 2) := by decide +kernel
theorem dX6_runScript_27 : decode cX6_runScript 27 = .ok (.iload 6, 2) := by decide +kernel
theorem dX6_runScript_29 : decode cX6_runScript 29 = .ok (.iload_n 1, 1) := by decide +kernel
theorem dX6_runScript_30 : decode cX6_runScript 30 = .ok (.if_icmp .ge 17, 3) := by decide +kernel
theorem dX6_runScript_33 : decode cX6_runScript 33 = .ok (.lload 4, 2) := by decide +kernel
theorem dX6_runScript_35 : decode cX6_runScript 35 = .ok (.ldc2_w 274, 3) := by decide +kernel
theorem dX6_runScript_38 : decode cX6_runScript 38 = .ok (.lmul, 1) := by decide +kernel
theorem dX6_runScript_39 : decode cX6_runScript 39 = .ok (.lstore 4, 2) := by decide +kernel
theorem dX6_runScript_41 : decode cX6_runScript 41 = .ok (.iinc 6 1, 3) := by decide +kernel
theorem dX6_runScript_44 : decode cX6_runScript 44 = .ok (.goto (-17), 3) := by decide +kernel
theorem dX6_runScript_47 : decode cX6_runScript 47 = .ok (.lload_n 2, 1) := by decide +kernel
theorem dX6_runScript_48 : decode cX6_runScript 48 = .ok (.lconst 0, 1) := by decide +kernel
theorem dX6_runScript_49 : decode cX6_runScript 49 = .ok (.lcmp, 1) := by decide +kernel
theorem dX6_runScript_50 : decode cX6_runScript 50 = .ok (.ifCond .lt 14, 3) := by decide +kernel
theorem dX6_runScript_53 : decode cX6_runScript 53 = .ok (.lload_n 2, 1) := by decide +kernel
theorem dX6_runScript_54 : decode cX6_runScript 54 = .ok (.ldc2_w 274, 3) := by decide +kernel
theorem dX6_runScript_57 : decode cX6_runScript 57 = .ok (.ldiv, 1) := by decide +kernel
theorem dX6_runScript_58 : decode cX6_runScript 58 = .ok (.lload 4, 2) := by decide +kernel
theorem dX6_runScript_60 : decode cX6_runScript 60 = .ok (.lcmp, 1) := by decide +kernel
theorem dX6_runScript_61 : decode cX6_runScript 61 = .ok (.ifCond .lt 14, 3) := by decide +kernel
theorem dX6_runScript_64 : decode cX6_runScript 64 = .ok (.new 40, 3) := by decide +kernel
theorem dX6_runScript_67 : decode cX6_runScript 67 = .ok (.dup, 1) := by decide +kernel
theorem dX6_runScript_68 : decode cX6_runScript 68 = .ok (.ldc_w 276, 3) := by decide +kernel
theorem dX6_runScript_71 : decode cX6_runScript 71 = .ok (.invokespecial 44, 3) := by decide +kernel
theorem dX6_runScript_74 : decode cX6_runScript 74 = .ok (.athrow, 1) := by decide +kernel
theorem dX6_runScript_75 : decode cX6_runScript 75 = .ok (.aload_n 0, 1) := by decide +kernel
theorem dX6_runScript_76 : decode cX6_runScript 76 = .ok (.getfield 23, 3) := by decide +kernel
theorem dX6_runScript_79 : decode cX6_runScript 79 = .ok (.aload_n 0, 1) := by decide +kernel
theorem dX6_runScript_80 : decode cX6_runScript 80 = .ok (.getfield 19, 3) := by decide +kernel
theorem dX6_runScript_83 : decode cX6_runScript 83 = .ok (.invokevirtual 253, 3) := by decide +kernel
theorem dX6_runScript_86 : decode cX6_runScript 86 = .ok (.iconst 0, 1) := by decide +kernel
theorem dX6_runScript_87 : decode cX6_runScript 87 = .ok (.istore 6, 2) := by decide +kernel
theorem dX6_runScript_89 : decode cX6_runScript 89 = .ok (.iload 6, 2) := by decide +kernel
theorem dX6_runScript_91 : decode cX6_runScript 91 = .ok (.iload_n 1, 1) := by decide +kernel
theorem dX6_runScript_92 : decode cX6_runScript 92 = .ok (.if_icmp .ge 46, 3) := by decide +kernel
theorem dX6_runScript_95 : decode cX6_runScript 95 = .ok (.lload 4, 2) := by decide +kernel
theorem dX6_runScript_97 : decode cX6_runScript 97 = .ok (.lconst 0, 1) := by decide +kernel
theorem dX6_runScript_98 : decode cX6_runScript 98 = .ok (.lcmp, 1) := by decide +kernel
theorem dX6_runScript_99 : decode cX6_runScript 99 = .ok (.ifCond .le 39, 3) := by decide +kernel
theorem dX6_runScript_102 : decode cX6_runScript 102 = .ok (.lload_n 2, 1) := by decide +kernel
theorem dX6_runScript_103 : decode cX6_runScript 103 = .ok (.lload 4, 2) := by decide +kernel
theorem dX6_runScript_105 : decode cX6_runScript 105 = .ok (.ldiv, 1) := by decide +kernel
theorem dX6_runScript_106 : decode cX6_runScript 106 = .ok (.ldc2_w 274, 3) := by decide +kernel
theorem dX6_runScript_109 : decode cX6_runScript 109 = .ok (.lrem, 1) := by decide +kernel
theorem dX6_runScript_110 : decode cX6_runScript 110 = .ok (.l2i, 1) := by decide +kernel
theorem dX6_runScript_111 : decode cX6_runScript 111 = .ok (.aload_n 0, 1) := by decide +kernel
theorem dX6_runScript_112 : decode cX6_runScript 112 = .ok (.getfield 23, 3) := by decide +kernel
theorem dX6_runScript_115 : decode cX6_runScript 115 = .ok (.invokestatic 278, 3) := by decide +kernel
theorem dX6_runScript_118 : decode cX6_runScript 118 = .ok (.ifCond .ne 6, 3) := by decide +kernel
theorem dX6_runScript_121 : decode cX6_runScript 121 = .ok (.iload 6, 2) := by decide +kernel
theorem dX6_runScript_123 : decode cX6_runScript 123 = .ok (.ireturn, 1) := by decide +kernel
theorem dX6_runScript_124 : decode cX6_runScript 124 = .ok (.lload 4, 2) := by decide +kernel
theorem dX6_runScript_126 : decode cX6_runScript 126 = .ok (.ldc2_w 274, 3) := by decide +kernel
theorem dX6_runScript_129 : decode cX6_runScript 129 = .ok (.ldiv, 1) := by decide +kernel
theorem dX6_runScript_130 : decode cX6_runScript 130 = .ok (.lstore 4, 2) := by decide +kernel
theorem dX6_runScript_132 : decode cX6_runScript 132 = .ok (.iinc 6 1, 3) := by decide +kernel
theorem dX6_runScript_135 : decode cX6_runScript 135 = .ok (.goto (-46), 3) := by decide +kernel
theorem dX6_runScript_138 : decode cX6_runScript 138 = .ok (.iconst (-1), 1) := by decide +kernel
theorem dX6_runScript_139 : decode cX6_runScript 139 = .ok (.ireturn, 1) := by decide +kernel
set_option maxRecDepth 20000 in
theorem ggX6_simulate_X4_copyFrom : GoodIn wsX6_simulate wsX4_copyFrom := goodIn_r _ [8, 9, 10, 11, 12, 13, 14, 15, 16, 17, 18, 19, 20, 21, 22, 23, 24, 25, 26, 27, 28, 29, 155, 156, 157, 158, 159, 160, 161, 162, 163, 164, 165, 166, 167, 168] rfl (by decide +kernel)
set_option maxRecDepth 20000 in
theorem gX6_simulate_X4_copyFrom_n253 : GoodIn wsX6_simulate (wsX4_copyFrom) := ggX6_simulate_X4_copyFrom
set_option maxRecDepth 20000 in
theorem ggX6_simulate_X6_nextChance : GoodIn wsX6_simulate wsX6_nextChance := goodIn_r _ [32, 33, 34] rfl (by decide +kernel)
set_option maxRecDepth 20000 in
theorem gX6_simulate_X6_nextChance : GoodIn wsX6_simulate (va_wsS RX6 286 yX6_nextChance wsX6_nextChance) := goodIn_app (goodIn_r _ [30, 31, 24] rfl (by decide +kernel)) ggX6_simulate_X6_nextChance
set_option maxRecDepth 20000 in
theorem ggX6_simulate_X3_doTurn : GoodIn wsX6_simulate wsX3_doTurn := goodIn_r _ [37, 38, 6, 39, 40, 17, 11, 12, 13, 14, 15, 16, 41, 24, 42, 43, 44, 45, 46, 47, 48, 49, 50, 51, 52, 53, 54, 55, 56, 57, 58, 59, 60, 20, 19, 31, 32, 33, 34, 61, 62, 63, 64, 10, 21, 65, 66, 67, 68, 69, 70, 71, 72, 73, 74, 75, 76, 77, 78, 79, 80, 9, 81, 82, 83, 84, 85, 86, 87, 88, 89, 90, 91, 92, 93, 94, 95, 96, 97, 98, 99, 100, 101, 102, 103, 104, 105, 106, 107, 108, 109, 110, 111, 112, 113, 114, 36, 115, 116, 117, 118, 22, 119, 120, 121, 122, 123, 124, 125, 126, 127, 18, 128, 129, 130, 131, 132, 133, 134, 135, 136, 137, 138, 139, 140, 141, 142, 143, 144, 145, 146, 155, 156, 157, 158, 159, 160, 161, 162, 163, 164, 165, 166, 167, 168] rfl (by decide +kernel)
set_option maxRecDepth 20000 in
theorem gX6_simulate_X3_doTurn_n290 : GoodIn wsX6_simulate (wsX3_doTurn) := ggX6_simulate_X3_doTurn
set_option maxRecDepth 20000 in
theorem ggX6_simulate_X4_carsInState : GoodIn wsX6_simulate wsX4_carsInState := goodIn_r _ [149, 17, 13, 55, 24, 56, 155, 156, 157, 158, 159, 160, 161, 162, 163, 164, 165, 166, 167, 168] rfl (by decide +kernel)
set_option maxRecDepth 20000 in
theorem gX6_simulate_X4_carsInState_n93 : GoodIn wsX6_simulate (wsX4_carsInState) := ggX6_simulate_X4_carsInState
set_option maxRecDepth 20000 in
theorem ggX6_simulate_X4_cellsWith : GoodIn wsX6_simulate wsX4_cellsWith := goodIn_r _ [112, 9, 155, 156, 157, 158, 159, 160, 161, 162, 163, 164, 165, 166, 167, 168] rfl (by decide +kernel)
set_option maxRecDepth 20000 in
theorem gX6_simulate_X4_cellsWith_n105 : GoodIn wsX6_simulate (wsX4_cellsWith) := ggX6_simulate_X4_cellsWith
theorem dX6_simulate_0 : decode cX6_simulate 0 = .ok (.iload_n 3, 1) := by decide +kernel
theorem dX6_simulate_1 : decode cX6_simulate 1 = .ok (.iconst 1, 1) := by decide +kernel
theorem dX6_simulate_2 : decode cX6_simulate 2 = .ok (.if_icmp .lt 9, 3) := by decide +kernel
theorem dX6_simulate_5 : decode cX6_simulate 5 = .ok (.iload_n 3, 1) := by decide +kernel
theorem dX6_simulate_6 : decode cX6_simulate 6 = .ok (.bipush 60, 2) := by decide +kernel
theorem dX6_simulate_8 : decode cX6_simulate 8 = .ok (.if_icmp .le 14, 3) := by decide +kernel
theorem dX6_simulate_11 : decode cX6_simulate 11 = .ok (.new 40, 3) := by decide +kernel
theorem dX6_simulate_14 : decode cX6_simulate 14 = .ok (.dup, 1) := by decide +kernel
theorem dX6_simulate_15 : decode cX6_simulate 15 = .ok (.ldc_w 284, 3) := by decide +kernel
theorem dX6_simulate_18 : decode cX6_simulate 18 = .ok (.invokespecial 44, 3) := by decide +kernel
theorem dX6_simulate_21 : decode cX6_simulate 21 = .ok (.athrow, 1) := by decide +kernel
theorem dX6_simulate_22 : decode cX6_simulate 22 = .ok (.aload_n 0, 1) := by decide +kernel
theorem dX6_simulate_23 : decode cX6_simulate 23 = .ok (.getfield 23, 3) := by decide +kernel
theorem dX6_simulate_26 : decode cX6_simulate 26 = .ok (.aload_n 0, 1) := by decide +kernel
theorem dX6_simulate_27 : decode cX6_simulate 27 = .ok (.getfield 19, 3) := by decide +kernel
theorem dX6_simulate_30 : decode cX6_simulate 30 = .ok (.invokevirtual 253, 3) := by decide +kernel
theorem dX6_simulate_33 : decode cX6_simulate 33 = .ok (.lload_n 1, 1) := by decide +kernel
theorem dX6_simulate_34 : decode cX6_simulate 34 = .ok (.lstore 4, 2) := by decide +kernel
theorem dX6_simulate_36 : decode cX6_simulate 36 = .ok (.iconst 0, 1) := by decide +kernel
theorem dX6_simulate_37 : decode cX6_simulate 37 = .ok (.istore 6, 2) := by decide +kernel
theorem dX6_simulate_39 : decode cX6_simulate 39 = .ok (.iload 6, 2) := by decide +kernel
theorem dX6_simulate_41 : decode cX6_simulate 41 = .ok (.iload_n 3, 1) := by decide +kernel
theorem dX6_simulate_42 : decode cX6_simulate 42 = .ok (.if_icmp .ge 29, 3) := by decide +kernel
theorem dX6_simulate_45 : decode cX6_simulate 45 = .ok (.lload 4, 2) := by decide +kernel
theorem dX6_simulate_47 : decode cX6_simulate 47 = .ok (.invokestatic 286, 3) := by decide +kernel
theorem dX6_simulate_50 : decode cX6_simulate 50 = .ok (.lstore 4, 2) := by decide +kernel
theorem dX6_simulate_52 : decode cX6_simulate 52 = .ok (.lload 4, 2) := by decide +kernel
theorem dX6_simulate_54 : decode cX6_simulate 54 = .ok (.bipush 33, 2) := by decide +kernel
theorem dX6_simulate_56 : decode cX6_simulate 56 = .ok (.lushr, 1) := by decide +kernel
theorem dX6_simulate_57 : decode cX6_simulate 57 = .ok (.l2i, 1) := by decide +kernel
theorem dX6_simulate_58 : decode cX6_simulate 58 = .ok (.aload_n 0, 1) := by decide +kernel
theorem dX6_simulate_59 : decode cX6_simulate 59 = .ok (.getfield 23, 3) := by decide +kernel
theorem dX6_simulate_62 : decode cX6_simulate 62 = .ok (.invokestatic 290, 3) := by decide +kernel
theorem dX6_simulate_65 : decode cX6_simulate 65 = .ok (.iinc 6 1, 3) := by decide +kernel
theorem dX6_simulate_68 : decode cX6_simulate 68 = .ok (.goto (-29), 3) := by decide +kernel
theorem dX6_simulate_71 : decode cX6_simulate 71 = .ok (.aload_n 0, 1) := by decide +kernel
theorem dX6_simulate_72 : decode cX6_simulate 72 = .ok (.getfield 23, 3) := by decide +kernel
theorem dX6_simulate_75 : decode cX6_simulate 75 = .ok (.iconst 3, 1) := by decide +kernel
theorem dX6_simulate_76 : decode cX6_simulate 76 = .ok (.invokevirtual 93, 3) := by decide +kernel
theorem dX6_simulate_79 : decode cX6_simulate 79 = .ok (.aload_n 0, 1) := by decide +kernel
theorem dX6_simulate_80 : decode cX6_simulate 80 = .ok (.getfield 19, 3) := by decide +kernel
theorem dX6_simulate_83 : decode cX6_simulate 83 = .ok (.iconst 3, 1) := by decide +kernel
theorem dX6_simulate_84 : decode cX6_simulate 84 = .ok (.invokevirtual 93, 3) := by decide +kernel
theorem dX6_simulate_87 : decode cX6_simulate 87 = .ok (.isub, 1) := by decide +kernel
theorem dX6_simulate_88 : decode cX6_simulate 88 = .ok (.istore 6, 2) := by decide +kernel
theorem dX6_simulate_90 : decode cX6_simulate 90 = .ok (.sipush 10000, 3) := by decide +kernel
theorem dX6_simulate_93 : decode cX6_simulate 93 = .ok (.aload_n 0, 1) := by decide +kernel
theorem dX6_simulate_94 : decode cX6_simulate 94 = .ok (.getfield 23, 3) := by decide +kernel
theorem dX6_simulate_97 : decode cX6_simulate 97 = .ok (.iconst 0, 1) := by decide +kernel
theorem dX6_simulate_98 : decode cX6_simulate 98 = .ok (.invokevirtual 93, 3) := by decide +kernel
theorem dX6_simulate_101 : decode cX6_simulate 101 = .ok (.imul, 1) := by decide +kernel
theorem dX6_simulate_102 : decode cX6_simulate 102 = .ok (.bipush 100, 2) := by decide +kernel
theorem dX6_simulate_104 : decode cX6_simulate 104 = .ok (.iload 6, 2) := by decide +kernel
theorem dX6_simulate_106 : decode cX6_simulate 106 = .ok (.imul, 1) := by decide +kernel
theorem dX6_simulate_107 : decode cX6_simulate 107 = .ok (.iadd, 1) := by decide +kernel
theorem dX6_simulate_108 : decode cX6_simulate 108 = .ok (.aload_n 0, 1) := by decide +kernel
theorem dX6_simulate_109 : decode cX6_simulate 109 = .ok (.getfield 23, 3) := by decide +kernel
theorem dX6_simulate_112 : decode cX6_simulate 112 = .ok (.iconst (-1), 1) := by decide +kernel
theorem dX6_simulate_113 : decode cX6_simulate 113 = .ok (.invokevirtual 105, 3) := by decide +kernel
theorem dX6_simulate_116 : decode cX6_simulate 116 = .ok (.iadd, 1) := by decide +kernel
theorem dX6_simulate_117 : decode cX6_simulate 117 = .ok (.ireturn, 1) := by decide +kernel
set_option maxRecDepth 20000 in
theorem ggX6_save_X6_requireSlot : GoodIn wsX6_save wsX6_requireSlot := goodIn_ca (goodIn_r _ [6, 7, 8] rfl (by decide +kernel)) (goodIn_sub (fun _ h => List.mem_cons_of_mem _ (List.mem_append_right _ h)) (by decide +kernel))
set_option maxRecDepth 20000 in
theorem gX6_save_X6_requireSlot : GoodIn wsX6_save (va_wsS RX6 296 yX6_requireSlot wsX6_requireSlot) := goodIn_app (goodIn_r _ [3, 4, 5] rfl (by decide +kernel)) ggX6_save_X6_requireSlot
set_option maxRecDepth 20000 in
theorem ggX6_save_X1_keep : GoodIn wsX6_save wsX1_keep := goodIn_r _ [12, 13, 14, 15, 5, 16, 17, 18, 19, 20, 21, 22, 23, 24, 25, 26, 27, 28, 29, 30, 31, 32, 33, 34, 35, 36, 37, 38, 39, 40, 60, 61, 46, 47, 48, 49, 50, 51, 52, 53, 54, 55, 56, 57, 58, 59] rfl (by decide +kernel)
set_option maxRecDepth 20000 in
theorem gX6_save_X1_keep_n299 : GoodIn wsX6_save (wsX1_keep) := ggX6_save_X1_keep
theorem dX6_save_0 : decode cX6_save 0 = .ok (.iload_n 1, 1) := by decide +kernel
theorem dX6_save_1 : decode cX6_save 1 = .ok (.invokestatic 296, 3) := by decide +kernel
theorem dX6_save_4 : decode cX6_save 4 = .ok (.aload_n 0, 1) := by decide +kernel
theorem dX6_save_5 : decode cX6_save 5 = .ok (.getfield 36, 3) := by decide +kernel
theorem dX6_save_8 : decode cX6_save 8 = .ok (.iload_n 1, 1) := by decide +kernel
theorem dX6_save_9 : decode cX6_save 9 = .ok (.aload_n 0, 1) := by decide +kernel
theorem dX6_save_10 : decode cX6_save 10 = .ok (.getfield 19, 3) := by decide +kernel
theorem dX6_save_13 : decode cX6_save 13 = .ok (.invokevirtual 299, 3) := by decide +kernel
theorem dX6_save_16 : decode cX6_save 16 = .ok (.aload_n 0, 1) := by decide +kernel
theorem dX6_save_17 : decode cX6_save 17 = .ok (.getfield 19, 3) := by decide +kernel
theorem dX6_save_20 : decode cX6_save 20 = .ok (.getfield 96, 3) := by decide +kernel
theorem dX6_save_23 : decode cX6_save 23 = .ok (.ireturn, 1) := by decide +kernel
set_option maxRecDepth 20000 in
theorem ggX6_restore_X6_requireSlot : GoodIn wsX6_restore wsX6_requireSlot := goodIn_ca (goodIn_r _ [9, 10, 11] rfl (by decide +kernel)) (goodIn_sub (fun _ h => List.mem_cons_of_mem _ (List.mem_append_right _ h)) (by decide +kernel))
set_option maxRecDepth 20000 in
theorem gX6_restore_X6_requireSlot : GoodIn wsX6_restore (va_wsS RX6 296 yX6_requireSlot wsX6_requireSlot) := goodIn_app (goodIn_r _ [6, 7, 8] rfl (by decide +kernel)) ggX6_restore_X6_requireSlot
set_option maxRecDepth 20000 in
theorem ggX6_restore_X1_isFilled : GoodIn wsX6_restore wsX1_isFilled := goodIn_r _ [15, 16, 72, 73] rfl (by decide +kernel)
set_option maxRecDepth 20000 in
theorem gX6_restore_X1_isFilled_n302 : GoodIn wsX6_restore (wsX1_isFilled) := ggX6_restore_X1_isFilled
set_option maxRecDepth 20000 in
theorem ggX6_restore_X1_giveBack : GoodIn wsX6_restore wsX1_giveBack := goodIn_r _ [19, 20, 21, 12, 14, 13, 15, 16, 22, 8, 23, 24, 25, 26, 27, 28, 29, 30, 31, 32, 33, 34, 35, 36, 37, 38, 39, 40, 41, 42, 43, 44, 45, 46, 47, 72, 73, 58, 59, 60, 61, 62, 63, 64, 65, 66, 67, 68, 69, 70, 71] rfl (by decide +kernel)
set_option maxRecDepth 20000 in
theorem gX6_restore_X1_giveBack_n307 : GoodIn wsX6_restore (wsX1_giveBack) := ggX6_restore_X1_giveBack
set_option maxRecDepth 20000 in
theorem ggX6_restore_X0_forget : GoodIn wsX6_restore wsX0_forget := goodIn_r _ [51, 52, 74, 75, 76] rfl (by decide +kernel)
set_option maxRecDepth 20000 in
theorem gX6_restore_X0_forget_n72 : GoodIn wsX6_restore (wsX0_forget) := ggX6_restore_X0_forget
theorem dX6_restore_0 : decode cX6_restore 0 = .ok (.iload_n 1, 1) := by decide +kernel
theorem dX6_restore_1 : decode cX6_restore 1 = .ok (.invokestatic 296, 3) := by decide +kernel
theorem dX6_restore_4 : decode cX6_restore 4 = .ok (.aload_n 0, 1) := by decide +kernel
theorem dX6_restore_5 : decode cX6_restore 5 = .ok (.getfield 36, 3) := by decide +kernel
theorem dX6_restore_8 : decode cX6_restore 8 = .ok (.iload_n 1, 1) := by decide +kernel
theorem dX6_restore_9 : decode cX6_restore 9 = .ok (.invokevirtual 302, 3) := by decide +kernel
theorem dX6_restore_12 : decode cX6_restore 12 = .ok (.ifCond .ne 14, 3) := by decide +kernel
theorem dX6_restore_15 : decode cX6_restore 15 = .ok (.new 51, 3) := by decide +kernel
theorem dX6_restore_18 : decode cX6_restore 18 = .ok (.dup, 1) := by decide +kernel
theorem dX6_restore_19 : decode cX6_restore 19 = .ok (.ldc_w 305, 3) := by decide +kernel
theorem dX6_restore_22 : decode cX6_restore 22 = .ok (.invokespecial 55, 3) := by decide +kernel
theorem dX6_restore_25 : decode cX6_restore 25 = .ok (.athrow, 1) := by decide +kernel
theorem dX6_restore_26 : decode cX6_restore 26 = .ok (.aload_n 0, 1) := by decide +kernel
theorem dX6_restore_27 : decode cX6_restore 27 = .ok (.getfield 36, 3) := by decide +kernel
theorem dX6_restore_30 : decode cX6_restore 30 = .ok (.iload_n 1, 1) := by decide +kernel
theorem dX6_restore_31 : decode cX6_restore 31 = .ok (.aload_n 0, 1) := by decide +kernel
theorem dX6_restore_32 : decode cX6_restore 32 = .ok (.getfield 19, 3) := by decide +kernel
theorem dX6_restore_35 : decode cX6_restore 35 = .ok (.invokevirtual 307, 3) := by decide +kernel
theorem dX6_restore_38 : decode cX6_restore 38 = .ok (.aload_n 0, 1) := by decide +kernel
theorem dX6_restore_39 : decode cX6_restore 39 = .ok (.getfield 29, 3) := by decide +kernel
theorem dX6_restore_42 : decode cX6_restore 42 = .ok (.invokevirtual 72, 3) := by decide +kernel
theorem dX6_restore_45 : decode cX6_restore 45 = .ok (.aload_n 0, 1) := by decide +kernel
theorem dX6_restore_46 : decode cX6_restore 46 = .ok (.getfield 19, 3) := by decide +kernel
theorem dX6_restore_49 : decode cX6_restore 49 = .ok (.getfield 96, 3) := by decide +kernel
theorem dX6_restore_52 : decode cX6_restore 52 = .ok (.ireturn, 1) := by decide +kernel
set_option maxRecDepth 20000 in
theorem ggX6_requireCar_X4_isCar : GoodIn wsX6_requireCar wsX4_isCar := goodIn_r _ [7, 8, 14, 15, 16, 17, 18, 19, 20, 21, 22, 23, 24, 25, 26, 27] rfl (by decide +kernel)
set_option maxRecDepth 20000 in
theorem gX6_requireCar_X4_isCar_n310 : GoodIn wsX6_requireCar (wsX4_isCar) := ggX6_requireCar_X4_isCar
theorem dX6_requireCar_0 : decode cX6_requireCar 0 = .ok (.aload_n 0, 1) := by decide +kernel
theorem dX6_requireCar_1 : decode cX6_requireCar 1 = .ok (.getfield 19, 3) := by decide +kernel
theorem dX6_requireCar_4 : decode cX6_requireCar 4 = .ok (.iload_n 1, 1) := by decide +kernel
theorem dX6_requireCar_5 : decode cX6_requireCar 5 = .ok (.invokevirtual 310, 3) := by decide +kernel
theorem dX6_requireCar_8 : decode cX6_requireCar 8 = .ok (.ifCond .ne 14, 3) := by decide +kernel
theorem dX6_requireCar_11 : decode cX6_requireCar 11 = .ok (.new 157, 3) := by decide +kernel
theorem dX6_requireCar_14 : decode cX6_requireCar 14 = .ok (.dup, 1) := by decide +kernel
theorem dX6_requireCar_15 : decode cX6_requireCar 15 = .ok (.ldc_w 313, 3) := by decide +kernel
theorem dX6_requireCar_18 : decode cX6_requireCar 18 = .ok (.invokespecial 161, 3) := by decide +kernel
theorem dX6_requireCar_21 : decode cX6_requireCar 21 = .ok (.athrow, 1) := by decide +kernel
theorem dX6_requireCar_22 : decode cX6_requireCar 22 = .ok (.return_, 1) := by decide +kernel
set_option maxRecDepth 20000 in
theorem ggX6_requireParked_X4_isParked : GoodIn wsX6_requireParked wsX4_isParked := goodIn_r _ [7, 8, 9, 10, 11, 5, 12, 13, 14, 15, 16, 22, 23, 24, 25, 26, 27, 28, 29, 30, 31, 32, 33, 34, 35] rfl (by decide +kernel)
set_option maxRecDepth 20000 in
theorem gX6_requireParked_X4_isParked_n140 : GoodIn wsX6_requireParked (wsX4_isParked) := ggX6_requireParked_X4_isParked
theorem dX6_requireParked_0 : decode cX6_requireParked 0 = .ok (.aload_n 0, 1) := by decide +kernel
theorem dX6_requireParked_1 : decode cX6_requireParked 1 = .ok (.getfield 19, 3) := by decide +kernel
theorem dX6_requireParked_4 : decode cX6_requireParked 4 = .ok (.iload_n 1, 1) := by decide +kernel
theorem dX6_requireParked_5 : decode cX6_requireParked 5 = .ok (.invokevirtual 140, 3) := by decide +kernel
theorem dX6_requireParked_8 : decode cX6_requireParked 8 = .ok (.ifCond .ne 14, 3) := by decide +kernel
theorem dX6_requireParked_11 : decode cX6_requireParked 11 = .ok (.new 51, 3) := by decide +kernel
theorem dX6_requireParked_14 : decode cX6_requireParked 14 = .ok (.dup, 1) := by decide +kernel
theorem dX6_requireParked_15 : decode cX6_requireParked 15 = .ok (.ldc_w 315, 3) := by decide +kernel
theorem dX6_requireParked_18 : decode cX6_requireParked 18 = .ok (.invokespecial 55, 3) := by decide +kernel
theorem dX6_requireParked_21 : decode cX6_requireParked 21 = .ok (.athrow, 1) := by decide +kernel
theorem dX6_requireParked_22 : decode cX6_requireParked 22 = .ok (.return_, 1) := by decide +kernel
set_option maxRecDepth 20000 in
theorem ggX6_requireCell_X6_isCell : GoodIn wsX6_requireCell wsX6_isCell := goodIn_r _ [6] rfl (by decide +kernel)
set_option maxRecDepth 20000 in
theorem gX6_requireCell_X6_isCell : GoodIn wsX6_requireCell (va_wsS RX6 317 yX6_isCell wsX6_isCell) := goodIn_app (goodIn_r _ [3, 4, 5] rfl (by decide +kernel)) ggX6_requireCell_X6_isCell
theorem dX6_requireCell_0 : decode cX6_requireCell 0 = .ok (.iload_n 0, 1) := by decide +kernel
theorem dX6_requireCell_1 : decode cX6_requireCell 1 = .ok (.invokestatic 317, 3) := by decide +kernel
theorem dX6_requireCell_4 : decode cX6_requireCell 4 = .ok (.ifCond .ne 14, 3) := by decide +kernel
theorem dX6_requireCell_7 : decode cX6_requireCell 7 = .ok (.new 157, 3) := by decide +kernel
theorem dX6_requireCell_10 : decode cX6_requireCell 10 = .ok (.dup, 1) := by decide +kernel
theorem dX6_requireCell_11 : decode cX6_requireCell 11 = .ok (.ldc_w 320, 3) := by decide +kernel
theorem dX6_requireCell_14 : decode cX6_requireCell 14 = .ok (.invokespecial 161, 3) := by decide +kernel
theorem dX6_requireCell_17 : decode cX6_requireCell 17 = .ok (.athrow, 1) := by decide +kernel
theorem dX6_requireCell_18 : decode cX6_requireCell 18 = .ok (.return_, 1) := by decide +kernel
set_option maxRecDepth 20000 in
theorem ggX6_requireLength_X6_isLength : GoodIn wsX6_requireLength wsX6_isLength := goodIn_r _ [6] rfl (by decide +kernel)
set_option maxRecDepth 20000 in
theorem gX6_requireLength_X6_isLength : GoodIn wsX6_requireLength (va_wsS RX6 322 yX6_isLength wsX6_isLength) := goodIn_app (goodIn_r _ [3, 4, 5] rfl (by decide +kernel)) ggX6_requireLength_X6_isLength
theorem dX6_requireLength_0 : decode cX6_requireLength 0 = .ok (.iload_n 0, 1) := by decide +kernel
theorem dX6_requireLength_1 : decode cX6_requireLength 1 = .ok (.invokestatic 322, 3) := by decide +kernel
theorem dX6_requireLength_4 : decode cX6_requireLength 4 = .ok (.ifCond .ne 14, 3) := by decide +kernel
theorem dX6_requireLength_7 : decode cX6_requireLength 7 = .ok (.new 40, 3) := by decide +kernel
theorem dX6_requireLength_10 : decode cX6_requireLength 10 = .ok (.dup, 1) := by decide +kernel
theorem dX6_requireLength_11 : decode cX6_requireLength 11 = .ok (.ldc_w 325, 3) := by decide +kernel
theorem dX6_requireLength_14 : decode cX6_requireLength 14 = .ok (.invokespecial 44, 3) := by decide +kernel
theorem dX6_requireLength_17 : decode cX6_requireLength 17 = .ok (.athrow, 1) := by decide +kernel
theorem dX6_requireLength_18 : decode cX6_requireLength 18 = .ok (.return_, 1) := by decide +kernel
theorem dX6_requireZeroOrOne_0 : decode cX6_requireZeroOrOne 0 = .ok (.iload_n 0, 1) := by decide +kernel
theorem dX6_requireZeroOrOne_1 : decode cX6_requireZeroOrOne 1 = .ok (.ifCond .eq 19, 3) := by decide +kernel
theorem dX6_requireZeroOrOne_4 : decode cX6_requireZeroOrOne 4 = .ok (.iload_n 0, 1) := by decide +kernel
theorem dX6_requireZeroOrOne_5 : decode cX6_requireZeroOrOne 5 = .ok (.iconst 1, 1) := by decide +kernel
theorem dX6_requireZeroOrOne_6 : decode cX6_requireZeroOrOne 6 = .ok (.if_icmp .eq 14, 3) := by decide +kernel
theorem dX6_requireZeroOrOne_9 : decode cX6_requireZeroOrOne 9 = .ok (.new 40, 3) := by decide +kernel
theorem dX6_requireZeroOrOne_12 : decode cX6_requireZeroOrOne 12 = .ok (.dup, 1) := by decide +kernel
theorem dX6_requireZeroOrOne_13 : decode cX6_requireZeroOrOne 13 = .ok (.ldc_w 327, 3) := by decide +kernel
theorem dX6_requireZeroOrOne_16 : decode cX6_requireZeroOrOne 16 = .ok (.invokespecial 44, 3) := by decide +kernel
theorem dX6_requireZeroOrOne_19 : decode cX6_requireZeroOrOne 19 = .ok (.athrow, 1) := by decide +kernel
theorem dX6_requireZeroOrOne_20 : decode cX6_requireZeroOrOne 20 = .ok (.return_, 1) := by decide +kernel
theorem dX6_requireSlot_0 : decode cX6_requireSlot 0 = .ok (.iload_n 0, 1) := by decide +kernel
theorem dX6_requireSlot_1 : decode cX6_requireSlot 1 = .ok (.ifCond .lt 8, 3) := by decide +kernel
theorem dX6_requireSlot_4 : decode cX6_requireSlot 4 = .ok (.iload_n 0, 1) := by decide +kernel
theorem dX6_requireSlot_5 : decode cX6_requireSlot 5 = .ok (.iconst 2, 1) := by decide +kernel
theorem dX6_requireSlot_6 : decode cX6_requireSlot 6 = .ok (.if_icmp .lt 14, 3) := by decide +kernel
theorem dX6_requireSlot_9 : decode cX6_requireSlot 9 = .ok (.new 157, 3) := by decide +kernel
theorem dX6_requireSlot_12 : decode cX6_requireSlot 12 = .ok (.dup, 1) := by decide +kernel
theorem dX6_requireSlot_13 : decode cX6_requireSlot 13 = .ok (.ldc_w 329, 3) := by decide +kernel
theorem dX6_requireSlot_16 : decode cX6_requireSlot 16 = .ok (.invokespecial 161, 3) := by decide +kernel
theorem dX6_requireSlot_19 : decode cX6_requireSlot 19 = .ok (.athrow, 1) := by decide +kernel
theorem dX6_requireSlot_20 : decode cX6_requireSlot 20 = .ok (.return_, 1) := by decide +kernel
theorem dX6_isCell_0 : decode cX6_isCell 0 = .ok (.iload_n 0, 1) := by decide +kernel
theorem dX6_isCell_1 : decode cX6_isCell 1 = .ok (.ifCond .lt 13, 3) := by decide +kernel
theorem dX6_isCell_4 : decode cX6_isCell 4 = .ok (.iload_n 0, 1) := by decide +kernel
theorem dX6_isCell_5 : decode cX6_isCell 5 = .ok (.bipush 80, 2) := by decide +kernel
theorem dX6_isCell_7 : decode cX6_isCell 7 = .ok (.if_icmp .ge 7, 3) := by decide +kernel
theorem dX6_isCell_10 : decode cX6_isCell 10 = .ok (.iconst 1, 1) := by decide +kernel
theorem dX6_isCell_11 : decode cX6_isCell 11 = .ok (.goto 4, 3) := by decide +kernel
theorem dX6_isCell_14 : decode cX6_isCell 14 = .ok (.iconst 0, 1) := by decide +kernel
theorem dX6_isCell_15 : decode cX6_isCell 15 = .ok (.ireturn, 1) := by decide +kernel
theorem dX6_isLength_0 : decode cX6_isLength 0 = .ok (.iload_n 0, 1) := by decide +kernel
theorem dX6_isLength_1 : decode cX6_isLength 1 = .ok (.iconst 2, 1) := by decide +kernel
theorem dX6_isLength_2 : decode cX6_isLength 2 = .ok (.if_icmp .lt 13, 3) := by decide +kernel
theorem dX6_isLength_5 : decode cX6_isLength 5 = .ok (.iload_n 0, 1) := by decide +kernel
theorem dX6_isLength_6 : decode cX6_isLength 6 = .ok (.bipush 8, 2) := by decide +kernel
theorem dX6_isLength_8 : decode cX6_isLength 8 = .ok (.if_icmp .gt 7, 3) := by decide +kernel
theorem dX6_isLength_11 : decode cX6_isLength 11 = .ok (.iconst 1, 1) := by decide +kernel
theorem dX6_isLength_12 : decode cX6_isLength 12 = .ok (.goto 4, 3) := by decide +kernel
theorem dX6_isLength_15 : decode cX6_isLength 15 = .ok (.iconst 0, 1) := by decide +kernel
theorem dX6_isLength_16 : decode cX6_isLength 16 = .ok (.ireturn, 1) := by decide +kernel
theorem dX6_isStay_0 : decode cX6_isStay 0 = .ok (.iload_n 0, 1) := by decide +kernel
theorem dX6_isStay_1 : decode cX6_isStay 1 = .ok (.iconst 1, 1) := by decide +kernel
theorem dX6_isStay_2 : decode cX6_isStay 2 = .ok (.if_icmp .lt 13, 3) := by decide +kernel
theorem dX6_isStay_5 : decode cX6_isStay 5 = .ok (.iload_n 0, 1) := by decide +kernel
theorem dX6_isStay_6 : decode cX6_isStay 6 = .ok (.bipush 99, 2) := by decide +kernel
theorem dX6_isStay_8 : decode cX6_isStay 8 = .ok (.if_icmp .gt 7, 3) := by decide +kernel
theorem dX6_isStay_11 : decode cX6_isStay 11 = .ok (.iconst 1, 1) := by decide +kernel
theorem dX6_isStay_12 : decode cX6_isStay 12 = .ok (.goto 4, 3) := by decide +kernel
theorem dX6_isStay_15 : decode cX6_isStay 15 = .ok (.iconst 0, 1) := by decide +kernel
theorem dX6_isStay_16 : decode cX6_isStay 16 = .ok (.ireturn, 1) := by decide +kernel
theorem dX6_isMinutes_0 : decode cX6_isMinutes 0 = .ok (.iload_n 0, 1) := by decide +kernel
theorem dX6_isMinutes_1 : decode cX6_isMinutes 1 = .ok (.iconst 1, 1) := by decide +kernel
theorem dX6_isMinutes_2 : decode cX6_isMinutes 2 = .ok (.if_icmp .lt 13, 3) := by decide +kernel
theorem dX6_isMinutes_5 : decode cX6_isMinutes 5 = .ok (.iload_n 0, 1) := by decide +kernel
theorem dX6_isMinutes_6 : decode cX6_isMinutes 6 = .ok (.bipush 60, 2) := by decide +kernel
theorem dX6_isMinutes_8 : decode cX6_isMinutes 8 = .ok (.if_icmp .gt 7, 3) := by decide +kernel
theorem dX6_isMinutes_11 : decode cX6_isMinutes 11 = .ok (.iconst 1, 1) := by decide +kernel
theorem dX6_isMinutes_12 : decode cX6_isMinutes 12 = .ok (.goto 4, 3) := by decide +kernel
theorem dX6_isMinutes_15 : decode cX6_isMinutes 15 = .ok (.iconst 0, 1) := by decide +kernel
theorem dX6_isMinutes_16 : decode cX6_isMinutes 16 = .ok (.ireturn, 1) := by decide +kernel
theorem dX6_isSettingValue_0 : decode cX6_isSettingValue 0 = .ok (.iload_n 0, 1) := by decide +kernel
theorem dX6_isSettingValue_1 : decode cX6_isSettingValue 1 = .ok (.tableswitch 74 0 2 #[27, 42, 57], 27) := by decide +kernel
theorem dX6_isSettingValue_28 : decode cX6_isSettingValue 28 = .ok (.iload_n 1, 1) := by decide +kernel
theorem dX6_isSettingValue_29 : decode cX6_isSettingValue 29 = .ok (.ifCond .lt 12, 3) := by decide +kernel
theorem dX6_isSettingValue_32 : decode cX6_isSettingValue 32 = .ok (.iload_n 1, 1) := by decide +kernel
theorem dX6_isSettingValue_33 : decode cX6_isSettingValue 33 = .ok (.iconst 2, 1) := by decide +kernel
theorem dX6_isSettingValue_34 : decode cX6_isSettingValue 34 = .ok (.if_icmp .gt 7, 3) := by decide +kernel
theorem dX6_isSettingValue_37 : decode cX6_isSettingValue 37 = .ok (.iconst 1, 1) := by decide +kernel
theorem dX6_isSettingValue_38 : decode cX6_isSettingValue 38 = .ok (.goto 4, 3) := by decide +kernel
theorem dX6_isSettingValue_41 : decode cX6_isSettingValue 41 = .ok (.iconst 0, 1) := by decide +kernel
theorem dX6_isSettingValue_42 : decode cX6_isSettingValue 42 = .ok (.ireturn, 1) := by decide +kernel
theorem dX6_isSettingValue_43 : decode cX6_isSettingValue 43 = .ok (.iload_n 1, 1) := by decide +kernel
theorem dX6_isSettingValue_44 : decode cX6_isSettingValue 44 = .ok (.ifCond .lt 12, 3) := by decide +kernel
theorem dX6_isSettingValue_47 : decode cX6_isSettingValue 47 = .ok (.iload_n 1, 1) := by decide +kernel
theorem dX6_isSettingValue_48 : decode cX6_isSettingValue 48 = .ok (.iconst 4, 1) := by decide +kernel
theorem dX6_isSettingValue_49 : decode cX6_isSettingValue 49 = .ok (.if_icmp .gt 7, 3) := by decide +kernel
theorem dX6_isSettingValue_52 : decode cX6_isSettingValue 52 = .ok (.iconst 1, 1) := by decide +kernel
theorem dX6_isSettingValue_53 : decode cX6_isSettingValue 53 = .ok (.goto 4, 3) := by decide +kernel
theorem dX6_isSettingValue_56 : decode cX6_isSettingValue 56 = .ok (.iconst 0, 1) := by decide +kernel
theorem dX6_isSettingValue_57 : decode cX6_isSettingValue 57 = .ok (.ireturn, 1) := by decide +kernel
theorem dX6_isSettingValue_58 : decode cX6_isSettingValue 58 = .ok (.iload_n 1, 1) := by decide +kernel
theorem dX6_isSettingValue_59 : decode cX6_isSettingValue 59 = .ok (.iconst 1, 1) := by decide +kernel
theorem dX6_isSettingValue_60 : decode cX6_isSettingValue 60 = .ok (.if_icmp .lt 13, 3) := by decide +kernel
theorem dX6_isSettingValue_63 : decode cX6_isSettingValue 63 = .ok (.iload_n 1, 1) := by decide +kernel
theorem dX6_isSettingValue_64 : decode cX6_isSettingValue 64 = .ok (.bipush 30, 2) := by decide +kernel
theorem dX6_isSettingValue_66 : decode cX6_isSettingValue 66 = .ok (.if_icmp .gt 7, 3) := by decide +kernel
theorem dX6_isSettingValue_69 : decode cX6_isSettingValue 69 = .ok (.iconst 1, 1) := by decide +kernel
theorem dX6_isSettingValue_70 : decode cX6_isSettingValue 70 = .ok (.goto 4, 3) := by decide +kernel
theorem dX6_isSettingValue_73 : decode cX6_isSettingValue 73 = .ok (.iconst 0, 1) := by decide +kernel
theorem dX6_isSettingValue_74 : decode cX6_isSettingValue 74 = .ok (.ireturn, 1) := by decide +kernel
theorem dX6_isSettingValue_75 : decode cX6_isSettingValue 75 = .ok (.iconst 0, 1) := by decide +kernel
theorem dX6_isSettingValue_76 : decode cX6_isSettingValue 76 = .ok (.ireturn, 1) := by decide +kernel
theorem dX6_nextChance_0 : decode cX6_nextChance 0 = .ok (.lload_n 0, 1) := by decide +kernel
theorem dX6_nextChance_1 : decode cX6_nextChance 1 = .ok (.ldc2_w 331, 3) := by decide +kernel
theorem dX6_nextChance_4 : decode cX6_nextChance 4 = .ok (.lmul, 1) := by decide +kernel
theorem dX6_nextChance_5 : decode cX6_nextChance 5 = .ok (.ldc2_w 333, 3) := by decide +kernel
theorem dX6_nextChance_8 : decode cX6_nextChance 8 = .ok (.ladd, 1) := by decide +kernel
theorem dX6_nextChance_9 : decode cX6_nextChance 9 = .ok (.lreturn, 1) := by decide +kernel
theorem dX6_get_0 : decode cX6_get 0 = .ok (.aload_n 0, 1) := by decide +kernel
theorem dX6_get_1 : decode cX6_get 1 = .ok (.ifnull 13, 3) := by decide +kernel
theorem dX6_get_4 : decode cX6_get 4 = .ok (.iload_n 1, 1) := by decide +kernel
theorem dX6_get_5 : decode cX6_get 5 = .ok (.ifCond .lt 9, 3) := by decide +kernel
theorem dX6_get_8 : decode cX6_get 8 = .ok (.iload_n 1, 1) := by decide +kernel
theorem dX6_get_9 : decode cX6_get 9 = .ok (.aload_n 0, 1) := by decide +kernel
theorem dX6_get_10 : decode cX6_get 10 = .ok (.arraylength, 1) := by decide +kernel
theorem dX6_get_11 : decode cX6_get 11 = .ok (.if_icmp .lt 5, 3) := by decide +kernel
theorem dX6_get_14 : decode cX6_get 14 = .ok (.iconst (-1), 1) := by decide +kernel
theorem dX6_get_15 : decode cX6_get 15 = .ok (.ireturn, 1) := by decide +kernel
theorem dX6_get_16 : decode cX6_get 16 = .ok (.aload_n 0, 1) := by decide +kernel
theorem dX6_get_17 : decode cX6_get 17 = .ok (.iload_n 1, 1) := by decide +kernel
theorem dX6_get_18 : decode cX6_get 18 = .ok (.iaload, 1) := by decide +kernel
theorem dX6_get_19 : decode cX6_get 19 = .ok (.ireturn, 1) := by decide +kernel
theorem dX6_put_0 : decode cX6_put 0 = .ok (.aload_n 0, 1) := by decide +kernel
theorem dX6_put_1 : decode cX6_put 1 = .ok (.ifnull 13, 3) := by decide +kernel
theorem dX6_put_4 : decode cX6_put 4 = .ok (.iload_n 1, 1) := by decide +kernel
theorem dX6_put_5 : decode cX6_put 5 = .ok (.ifCond .lt 9, 3) := by decide +kernel
theorem dX6_put_8 : decode cX6_put 8 = .ok (.iload_n 1, 1) := by decide +kernel
theorem dX6_put_9 : decode cX6_put 9 = .ok (.aload_n 0, 1) := by decide +kernel
theorem dX6_put_10 : decode cX6_put 10 = .ok (.arraylength, 1) := by decide +kernel
theorem dX6_put_11 : decode cX6_put 11 = .ok (.if_icmp .lt 4, 3) := by decide +kernel
theorem dX6_put_14 : decode cX6_put 14 = .ok (.return_, 1) := by decide +kernel
theorem dX6_put_15 : decode cX6_put 15 = .ok (.aload_n 0, 1) := by decide +kernel
theorem dX6_put_16 : decode cX6_put 16 = .ok (.iload_n 1, 1) := by decide +kernel
theorem dX6_put_17 : decode cX6_put 17 = .ok (.iload_n 2, 1) := by decide +kernel
theorem dX6_put_18 : decode cX6_put 18 = .ok (.iastore, 1) := by decide +kernel
theorem dX6_put_19 : decode cX6_put 19 = .ok (.return_, 1) := by decide +kernel
theorem dX6_copyRow_0 : decode cX6_copyRow 0 = .ok (.aload_n 0, 1) := by decide +kernel
theorem dX6_copyRow_1 : decode cX6_copyRow 1 = .ok (.ifnull 14, 3) := by decide +kernel
theorem dX6_copyRow_4 : decode cX6_copyRow 4 = .ok (.aload_n 1, 1) := by decide +kernel
theorem dX6_copyRow_5 : decode cX6_copyRow 5 = .ok (.ifnull 10, 3) := by decide +kernel
theorem dX6_copyRow_8 : decode cX6_copyRow 8 = .ok (.aload_n 0, 1) := by decide +kernel
theorem dX6_copyRow_9 : decode cX6_copyRow 9 = .ok (.arraylength, 1) := by decide +kernel
theorem dX6_copyRow_10 : decode cX6_copyRow 10 = .ok (.aload_n 1, 1) := by decide +kernel
theorem dX6_copyRow_11 : decode cX6_copyRow 11 = .ok (.arraylength, 1) := by decide +kernel
theorem dX6_copyRow_12 : decode cX6_copyRow 12 = .ok (.if_icmp .eq 4, 3) := by decide +kernel
theorem dX6_copyRow_15 : decode cX6_copyRow 15 = .ok (.return_, 1) := by decide +kernel
theorem dX6_copyRow_16 : decode cX6_copyRow 16 = .ok (.aload_n 0, 1) := by decide +kernel
theorem dX6_copyRow_17 : decode cX6_copyRow 17 = .ok (.iconst 0, 1) := by decide +kernel
theorem dX6_copyRow_18 : decode cX6_copyRow 18 = .ok (.aload_n 1, 1) := by decide +kernel
theorem dX6_copyRow_19 : decode cX6_copyRow 19 = .ok (.iconst 0, 1) := by decide +kernel
theorem dX6_copyRow_20 : decode cX6_copyRow 20 = .ok (.aload_n 0, 1) := by decide +kernel
theorem dX6_copyRow_21 : decode cX6_copyRow 21 = .ok (.arraylength, 1) := by decide +kernel
theorem dX6_copyRow_22 : decode cX6_copyRow 22 = .ok (.invokestatic 335, 3) := by decide +kernel
theorem dX6_copyRow_25 : decode cX6_copyRow 25 = .ok (.return_, 1) := by decide +kernel
theorem dX6_streetOf_0 : decode cX6_streetOf 0 = .ok (.aload_n 0, 1) := by decide +kernel
theorem dX6_streetOf_1 : decode cX6_streetOf 1 = .ok (.ifnull 13, 3) := by decide +kernel
theorem dX6_streetOf_4 : decode cX6_streetOf 4 = .ok (.iload_n 1, 1) := by decide +kernel
theorem dX6_streetOf_5 : decode cX6_streetOf 5 = .ok (.ifCond .lt 9, 3) := by decide +kernel
theorem dX6_streetOf_8 : decode cX6_streetOf 8 = .ok (.iload_n 1, 1) := by decide +kernel
theorem dX6_streetOf_9 : decode cX6_streetOf 9 = .ok (.aload_n 0, 1) := by decide +kernel
theorem dX6_streetOf_10 : decode cX6_streetOf 10 = .ok (.arraylength, 1) := by decide +kernel
theorem dX6_streetOf_11 : decode cX6_streetOf 11 = .ok (.if_icmp .lt 5, 3) := by decide +kernel
theorem dX6_streetOf_14 : decode cX6_streetOf 14 = .ok (.aconst_null, 1) := by decide +kernel
theorem dX6_streetOf_15 : decode cX6_streetOf 15 = .ok (.areturn, 1) := by decide +kernel
theorem dX6_streetOf_16 : decode cX6_streetOf 16 = .ok (.aload_n 0, 1) := by decide +kernel
theorem dX6_streetOf_17 : decode cX6_streetOf 17 = .ok (.iload_n 1, 1) := by decide +kernel
theorem dX6_streetOf_18 : decode cX6_streetOf 18 = .ok (.aaload, 1) := by decide +kernel
theorem dX6_streetOf_19 : decode cX6_streetOf 19 = .ok (.areturn, 1) := by decide +kernel
set_option maxRecDepth 20000 in
theorem ggX7_init_X7_clear : GoodIn wsX7_init wsX7_clear := goodIn_r _ [16] rfl (by decide +kernel)
set_option maxRecDepth 20000 in
theorem gX7_init_X7_clear : GoodIn wsX7_init (va_wsS RX7 32 yX7_clear wsX7_clear) := goodIn_app (goodIn_r _ [13, 14, 15] rfl (by decide +kernel)) ggX7_init_X7_clear
theorem dX7_init_0 : decode cX7_init 0 = .ok (.aload_n 0, 1) := by decide +kernel
theorem dX7_init_1 : decode cX7_init 1 = .ok (.invokespecial 1, 3) := by decide +kernel
theorem dX7_init_4 : decode cX7_init 4 = .ok (.aload_n 0, 1) := by decide +kernel
theorem dX7_init_5 : decode cX7_init 5 = .ok (.bipush 120, 2) := by decide +kernel
theorem dX7_init_7 : decode cX7_init 7 = .ok (.newarray .int, 2) := by decide +kernel
theorem dX7_init_9 : decode cX7_init 9 = .ok (.putfield 7, 3) := by decide +kernel
theorem dX7_init_12 : decode cX7_init 12 = .ok (.aload_n 0, 1) := by decide +kernel
theorem dX7_init_13 : decode cX7_init 13 = .ok (.sipush 327, 3) := by decide +kernel
theorem dX7_init_16 : decode cX7_init 16 = .ok (.newarray .int, 2) := by decide +kernel
theorem dX7_init_18 : decode cX7_init 18 = .ok (.putfield 13, 3) := by decide +kernel
theorem dX7_init_21 : decode cX7_init 21 = .ok (.aload_n 0, 1) := by decide +kernel
theorem dX7_init_22 : decode cX7_init 22 = .ok (.sipush 327, 3) := by decide +kernel
theorem dX7_init_25 : decode cX7_init 25 = .ok (.newarray .int, 2) := by decide +kernel
theorem dX7_init_27 : decode cX7_init 27 = .ok (.putfield 16, 3) := by decide +kernel
theorem dX7_init_30 : decode cX7_init 30 = .ok (.aload_n 0, 1) := by decide +kernel
theorem dX7_init_31 : decode cX7_init 31 = .ok (.sipush 327, 3) := by decide +kernel
theorem dX7_init_34 : decode cX7_init 34 = .ok (.newarray .int, 2) := by decide +kernel
theorem dX7_init_36 : decode cX7_init 36 = .ok (.putfield 19, 3) := by decide +kernel
theorem dX7_init_39 : decode cX7_init 39 = .ok (.aload_n 0, 1) := by decide +kernel
theorem dX7_init_40 : decode cX7_init 40 = .ok (.sipush 4578, 3) := by decide +kernel
theorem dX7_init_43 : decode cX7_init 43 = .ok (.newarray .int, 2) := by decide +kernel
theorem dX7_init_45 : decode cX7_init 45 = .ok (.putfield 22, 3) := by decide +kernel
theorem dX7_init_48 : decode cX7_init 48 = .ok (.aload_n 0, 1) := by decide +kernel
theorem dX7_init_49 : decode cX7_init 49 = .ok (.sipush 654, 3) := by decide +kernel
theorem dX7_init_52 : decode cX7_init 52 = .ok (.newarray .int, 2) := by decide +kernel
theorem dX7_init_54 : decode cX7_init 54 = .ok (.putfield 25, 3) := by decide +kernel
theorem dX7_init_57 : decode cX7_init 57 = .ok (.aload_n 0, 1) := by decide +kernel
theorem dX7_init_58 : decode cX7_init 58 = .ok (.iconst 2, 1) := by decide +kernel
theorem dX7_init_59 : decode cX7_init 59 = .ok (.newarray .boolean, 2) := by decide +kernel
theorem dX7_init_61 : decode cX7_init 61 = .ok (.putfield 28, 3) := by decide +kernel
theorem dX7_init_64 : decode cX7_init 64 = .ok (.aload_n 0, 1) := by decide +kernel
theorem dX7_init_65 : decode cX7_init 65 = .ok (.getfield 13, 3) := by decide +kernel
theorem dX7_init_68 : decode cX7_init 68 = .ok (.invokestatic 32, 3) := by decide +kernel
theorem dX7_init_71 : decode cX7_init 71 = .ok (.return_, 1) := by decide +kernel
theorem dX7_thrown_0 : decode cX7_thrown 0 = .ok (.aload_n 0, 1) := by decide +kernel
theorem dX7_thrown_1 : decode cX7_thrown 1 = .ok (.getfield 36, 3) := by decide +kernel
theorem dX7_thrown_4 : decode cX7_thrown 4 = .ok (.ireturn, 1) := by decide +kernel
theorem dX7_refused_0 : decode cX7_refused 0 = .ok (.aload_n 0, 1) := by decide +kernel
theorem dX7_refused_1 : decode cX7_refused 1 = .ok (.iload_n 1, 1) := by decide +kernel
theorem dX7_refused_2 : decode cX7_refused 2 = .ok (.putfield 36, 3) := by decide +kernel
theorem dX7_refused_5 : decode cX7_refused 5 = .ok (.iload_n 1, 1) := by decide +kernel
theorem dX7_refused_6 : decode cX7_refused 6 = .ok (.ifCond .le 7, 3) := by decide +kernel
theorem dX7_refused_9 : decode cX7_refused 9 = .ok (.iconst 1, 1) := by decide +kernel
theorem dX7_refused_10 : decode cX7_refused 10 = .ok (.goto 4, 3) := by decide +kernel
theorem dX7_refused_13 : decode cX7_refused 13 = .ok (.iconst 0, 1) := by decide +kernel
theorem dX7_refused_14 : decode cX7_refused 14 = .ok (.ireturn, 1) := by decide +kernel
theorem dX7_in_0 : decode cX7_in 0 = .ok (.lload_n 0, 1) := by decide +kernel
theorem dX7_in_1 : decode cX7_in 1 = .ok (.lload_n 2, 1) := by decide +kernel
theorem dX7_in_2 : decode cX7_in 2 = .ok (.lcmp, 1) := by decide +kernel
theorem dX7_in_3 : decode cX7_in 3 = .ok (.ifCond .lt 14, 3) := by decide +kernel
theorem dX7_in_6 : decode cX7_in 6 = .ok (.lload_n 0, 1) := by decide +kernel
theorem dX7_in_7 : decode cX7_in 7 = .ok (.lload 4, 2) := by decide +kernel
theorem dX7_in_9 : decode cX7_in 9 = .ok (.lcmp, 1) := by decide +kernel
theorem dX7_in_10 : decode cX7_in 10 = .ok (.ifCond .gt 7, 3) := by decide +kernel
theorem dX7_in_13 : decode cX7_in 13 = .ok (.iconst 1, 1) := by decide +kernel
theorem dX7_in_14 : decode cX7_in 14 = .ok (.goto 4, 3) := by decide +kernel
theorem dX7_in_17 : decode cX7_in 17 = .ok (.iconst 0, 1) := by decide +kernel
theorem dX7_in_18 : decode cX7_in 18 = .ok (.ireturn, 1) := by decide +kernel
theorem dX7_copyState_0 : decode cX7_copyState 0 = .ok (.iconst 0, 1) := by decide +kernel
theorem dX7_copyState_1 : decode cX7_copyState 1 = .ok (.istore 4, 2) := by decide +kernel
theorem dX7_copyState_3 : decode cX7_copyState 3 = .ok (.iload 4, 2) := by decide +kernel
theorem dX7_copyState_5 : decode cX7_copyState 5 = .ok (.sipush 327, 3) := by decide +kernel
theorem dX7_copyState_8 : decode cX7_copyState 8 = .ok (.if_icmp .ge 21, 3) := by decide +kernel
theorem dX7_copyState_11 : decode cX7_copyState 11 = .ok (.aload_n 2, 1) := by decide +kernel
theorem dX7_copyState_12 : decode cX7_copyState 12 = .ok (.iload_n 3, 1) := by decide +kernel
theorem dX7_copyState_13 : decode cX7_copyState 13 = .ok (.iload 4, 2) := by decide +kernel
theorem dX7_copyState_15 : decode cX7_copyState 15 = .ok (.iadd, 1) := by decide +kernel
theorem dX7_copyState_16 : decode cX7_copyState 16 = .ok (.aload_n 0, 1) := by decide +kernel
theorem dX7_copyState_17 : decode cX7_copyState 17 = .ok (.iload_n 1, 1) := by decide +kernel
theorem dX7_copyState_18 : decode cX7_copyState 18 = .ok (.iload 4, 2) := by decide +kernel
theorem dX7_copyState_20 : decode cX7_copyState 20 = .ok (.iadd, 1) := by decide +kernel
theorem dX7_copyState_21 : decode cX7_copyState 21 = .ok (.iaload, 1) := by decide +kernel
theorem dX7_copyState_22 : decode cX7_copyState 22 = .ok (.iastore, 1) := by decide +kernel
theorem dX7_copyState_23 : decode cX7_copyState 23 = .ok (.iinc 4 1, 3) := by decide +kernel
theorem dX7_copyState_26 : decode cX7_copyState 26 = .ok (.goto (-23), 3) := by decide +kernel
theorem dX7_copyState_29 : decode cX7_copyState 29 = .ok (.return_, 1) := by decide +kernel
theorem dX7_clear_0 : decode cX7_clear 0 = .ok (.iconst 0, 1) := by decide +kernel
theorem dX7_clear_1 : decode cX7_clear 1 = .ok (.istore_n 1, 1) := by decide +kernel
theorem dX7_clear_2 : decode cX7_clear 2 = .ok (.iload_n 1, 1) := by decide +kernel
theorem dX7_clear_3 : decode cX7_clear 3 = .ok (.sipush 327, 3) := by decide +kernel
theorem dX7_clear_6 : decode cX7_clear 6 = .ok (.if_icmp .ge 13, 3) := by decide +kernel
theorem dX7_clear_9 : decode cX7_clear 9 = .ok (.aload_n 0, 1) := by decide +kernel
theorem dX7_clear_10 : decode cX7_clear 10 = .ok (.iload_n 1, 1) := by decide +kernel
theorem dX7_clear_11 : decode cX7_clear 11 = .ok (.iconst 0, 1) := by decide +kernel
theorem dX7_clear_12 : decode cX7_clear 12 = .ok (.iastore, 1) := by decide +kernel
theorem dX7_clear_13 : decode cX7_clear 13 = .ok (.iinc 1 1, 3) := by decide +kernel
theorem dX7_clear_16 : decode cX7_clear 16 = .ok (.goto (-14), 3) := by decide +kernel
theorem dX7_clear_19 : decode cX7_clear 19 = .ok (.iconst 0, 1) := by decide +kernel
theorem dX7_clear_20 : decode cX7_clear 20 = .ok (.istore_n 1, 1) := by decide +kernel
theorem dX7_clear_21 : decode cX7_clear 21 = .ok (.iload_n 1, 1) := by decide +kernel
theorem dX7_clear_22 : decode cX7_clear 22 = .ok (.bipush 80, 2) := by decide +kernel
theorem dX7_clear_24 : decode cX7_clear 24 = .ok (.if_icmp .ge 16, 3) := by decide +kernel
theorem dX7_clear_27 : decode cX7_clear 27 = .ok (.aload_n 0, 1) := by decide +kernel
theorem dX7_clear_28 : decode cX7_clear 28 = .ok (.bipush 7, 2) := by decide +kernel
theorem dX7_clear_30 : decode cX7_clear 30 = .ok (.iload_n 1, 1) := by decide +kernel
theorem dX7_clear_31 : decode cX7_clear 31 = .ok (.iadd, 1) := by decide +kernel
theorem dX7_clear_32 : decode cX7_clear 32 = .ok (.iconst (-1), 1) := by decide +kernel
theorem dX7_clear_33 : decode cX7_clear 33 = .ok (.iastore, 1) := by decide +kernel
theorem dX7_clear_34 : decode cX7_clear 34 = .ok (.iinc 1 1, 3) := by decide +kernel
theorem dX7_clear_37 : decode cX7_clear 37 = .ok (.goto (-16), 3) := by decide +kernel
theorem dX7_clear_40 : decode cX7_clear 40 = .ok (.aload_n 0, 1) := by decide +kernel
theorem dX7_clear_41 : decode cX7_clear 41 = .ok (.iconst 3, 1) := by decide +kernel
theorem dX7_clear_42 : decode cX7_clear 42 = .ok (.iconst 1, 1) := by decide +kernel
theorem dX7_clear_43 : decode cX7_clear 43 = .ok (.iastore, 1) := by decide +kernel
theorem dX7_clear_44 : decode cX7_clear 44 = .ok (.aload_n 0, 1) := by decide +kernel
theorem dX7_clear_45 : decode cX7_clear 45 = .ok (.iconst 4, 1) := by decide +kernel
theorem dX7_clear_46 : decode cX7_clear 46 = .ok (.iconst 5, 1) := by decide +kernel
theorem dX7_clear_47 : decode cX7_clear 47 = .ok (.iastore, 1) := by decide +kernel
theorem dX7_clear_48 : decode cX7_clear 48 = .ok (.aload_n 0, 1) := by decide +kernel
theorem dX7_clear_49 : decode cX7_clear 49 = .ok (.bipush 6, 2) := by decide +kernel
theorem dX7_clear_51 : decode cX7_clear 51 = .ok (.iconst 1, 1) := by decide +kernel
theorem dX7_clear_52 : decode cX7_clear 52 = .ok (.iastore, 1) := by decide +kernel
theorem dX7_clear_53 : decode cX7_clear 53 = .ok (.return_, 1) := by decide +kernel
theorem dX7_of_0 : decode cX7_of 0 = .ok (.aload_n 0, 1) := by decide +kernel
theorem dX7_of_1 : decode cX7_of 1 = .ok (.bipush 87, 2) := by decide +kernel
theorem dX7_of_3 : decode cX7_of 3 = .ok (.bipush 6, 2) := by decide +kernel
theorem dX7_of_5 : decode cX7_of 5 = .ok (.iload_n 1, 1) := by decide +kernel
theorem dX7_of_6 : decode cX7_of 6 = .ok (.imul, 1) := by decide +kernel
theorem dX7_of_7 : decode cX7_of 7 = .ok (.iadd, 1) := by decide +kernel
theorem dX7_of_8 : decode cX7_of 8 = .ok (.iload_n 2, 1) := by decide +kernel
theorem dX7_of_9 : decode cX7_of 9 = .ok (.iadd, 1) := by decide +kernel
theorem dX7_of_10 : decode cX7_of 10 = .ok (.iaload, 1) := by decide +kernel
theorem dX7_of_11 : decode cX7_of 11 = .ok (.ireturn, 1) := by decide +kernel
theorem dX7_lay_0 : decode cX7_lay 0 = .ok (.aload_n 0, 1) := by decide +kernel
theorem dX7_lay_1 : decode cX7_lay 1 = .ok (.bipush 87, 2) := by decide +kernel
theorem dX7_lay_3 : decode cX7_lay 3 = .ok (.bipush 6, 2) := by decide +kernel
theorem dX7_lay_5 : decode cX7_lay 5 = .ok (.iload_n 1, 1) := by decide +kernel
theorem dX7_lay_6 : decode cX7_lay 6 = .ok (.imul, 1) := by decide +kernel
theorem dX7_lay_7 : decode cX7_lay 7 = .ok (.iadd, 1) := by decide +kernel
theorem dX7_lay_8 : decode cX7_lay 8 = .ok (.iload_n 2, 1) := by decide +kernel
theorem dX7_lay_9 : decode cX7_lay 9 = .ok (.iadd, 1) := by decide +kernel
theorem dX7_lay_10 : decode cX7_lay 10 = .ok (.iload_n 3, 1) := by decide +kernel
theorem dX7_lay_11 : decode cX7_lay 11 = .ok (.iastore, 1) := by decide +kernel
theorem dX7_lay_12 : decode cX7_lay 12 = .ok (.return_, 1) := by decide +kernel
set_option maxRecDepth 20000 in
theorem ggX7_isCar_X7_in : GoodIn wsX7_isCar wsX7_in := goodIn_r _ [4] rfl (by decide +kernel)
set_option maxRecDepth 20000 in
theorem gX7_isCar_X7_in : GoodIn wsX7_isCar (va_wsS RX7 40 yX7_in wsX7_in) := goodIn_app (goodIn_r _ [1, 2, 3] rfl (by decide +kernel)) ggX7_isCar_X7_in
theorem dX7_isCar_0 : decode cX7_isCar 0 = .ok (.iload_n 1, 1) := by decide +kernel
theorem dX7_isCar_1 : decode cX7_isCar 1 = .ok (.i2l, 1) := by decide +kernel
theorem dX7_isCar_2 : decode cX7_isCar 2 = .ok (.lconst 0, 1) := by decide +kernel
theorem dX7_isCar_3 : decode cX7_isCar 3 = .ok (.aload_n 0, 1) := by decide +kernel
theorem dX7_isCar_4 : decode cX7_isCar 4 = .ok (.iconst 0, 1) := by decide +kernel
theorem dX7_isCar_5 : decode cX7_isCar 5 = .ok (.iaload, 1) := by decide +kernel
theorem dX7_isCar_6 : decode cX7_isCar 6 = .ok (.iconst 1, 1) := by decide +kernel
theorem dX7_isCar_7 : decode cX7_isCar 7 = .ok (.isub, 1) := by decide +kernel
theorem dX7_isCar_8 : decode cX7_isCar 8 = .ok (.i2l, 1) := by decide +kernel
theorem dX7_isCar_9 : decode cX7_isCar 9 = .ok (.invokestatic 40, 3) := by decide +kernel
theorem dX7_isCar_12 : decode cX7_isCar 12 = .ok (.ireturn, 1) := by decide +kernel
set_option maxRecDepth 20000 in
theorem ggX7_isParked_X7_isCar : GoodIn wsX7_isParked wsX7_isCar := goodIn_r _ [4, 5, 6, 3, 7] rfl (by decide +kernel)
set_option maxRecDepth 20000 in
theorem gX7_isParked_X7_isCar : GoodIn wsX7_isParked (va_wsS RX7 44 yX7_isCar wsX7_isCar) := goodIn_app (goodIn_r _ [1, 2, 3] rfl (by decide +kernel)) ggX7_isParked_X7_isCar
set_option maxRecDepth 20000 in
theorem ggX7_isParked_X7_of : GoodIn wsX7_isParked wsX7_of := goodIn_r _ [10] rfl (by decide +kernel)
set_option maxRecDepth 20000 in
theorem gX7_isParked_X7_of : GoodIn wsX7_isParked (va_wsS RX7 48 yX7_of wsX7_of) := goodIn_app (goodIn_r _ [8, 9, 3] rfl (by decide +kernel)) ggX7_isParked_X7_of
theorem dX7_isParked_0 : decode cX7_isParked 0 = .ok (.aload_n 0, 1) := by decide +kernel
theorem dX7_isParked_1 : decode cX7_isParked 1 = .ok (.iload_n 1, 1) := by decide +kernel
theorem dX7_isParked_2 : decode cX7_isParked 2 = .ok (.invokestatic 44, 3) := by decide +kernel
theorem dX7_isParked_5 : decode cX7_isParked 5 = .ok (.ifCond .eq 16, 3) := by decide +kernel
theorem dX7_isParked_8 : decode cX7_isParked 8 = .ok (.aload_n 0, 1) := by decide +kernel
theorem dX7_isParked_9 : decode cX7_isParked 9 = .ok (.iload_n 1, 1) := by decide +kernel
theorem dX7_isParked_10 : decode cX7_isParked 10 = .ok (.iconst 2, 1) := by decide +kernel
theorem dX7_isParked_11 : decode cX7_isParked 11 = .ok (.invokestatic 48, 3) := by decide +kernel
theorem dX7_isParked_14 : decode cX7_isParked 14 = .ok (.ifCond .ne 7, 3) := by decide +kernel
theorem dX7_isParked_17 : decode cX7_isParked 17 = .ok (.iconst 1, 1) := by decide +kernel
theorem dX7_isParked_18 : decode cX7_isParked 18 = .ok (.goto 4, 3) := by decide +kernel
theorem dX7_isParked_21 : decode cX7_isParked 21 = .ok (.iconst 0, 1) := by decide +kernel
theorem dX7_isParked_22 : decode cX7_isParked 22 = .ok (.ireturn, 1) := by decide +kernel
set_option maxRecDepth 20000 in
theorem ggX7_isCell_X7_in : GoodIn wsX7_isCell wsX7_in := goodIn_r _ [5] rfl (by decide +kernel)
set_option maxRecDepth 20000 in
theorem gX7_isCell_X7_in : GoodIn wsX7_isCell (va_wsS RX7 40 yX7_in wsX7_in) := goodIn_app (goodIn_r _ [2, 3, 4] rfl (by decide +kernel)) ggX7_isCell_X7_in
theorem dX7_isCell_0 : decode cX7_isCell 0 = .ok (.iload_n 0, 1) := by decide +kernel
theorem dX7_isCell_1 : decode cX7_isCell 1 = .ok (.i2l, 1) := by decide +kernel
theorem dX7_isCell_2 : decode cX7_isCell 2 = .ok (.lconst 0, 1) := by decide +kernel
theorem dX7_isCell_3 : decode cX7_isCell 3 = .ok (.ldc2_w 52, 3) := by decide +kernel
theorem dX7_isCell_6 : decode cX7_isCell 6 = .ok (.invokestatic 40, 3) := by decide +kernel
theorem dX7_isCell_9 : decode cX7_isCell 9 = .ok (.ireturn, 1) := by decide +kernel
set_option maxRecDepth 20000 in
theorem ggX7_isLength_X7_in : GoodIn wsX7_isLength wsX7_in := goodIn_r _ [6] rfl (by decide +kernel)
set_option maxRecDepth 20000 in
theorem gX7_isLength_X7_in : GoodIn wsX7_isLength (va_wsS RX7 40 yX7_in wsX7_in) := goodIn_app (goodIn_r _ [3, 4, 5] rfl (by decide +kernel)) ggX7_isLength_X7_in
theorem dX7_isLength_0 : decode cX7_isLength 0 = .ok (.iload_n 0, 1) := by decide +kernel
theorem dX7_isLength_1 : decode cX7_isLength 1 = .ok (.i2l, 1) := by decide +kernel
theorem dX7_isLength_2 : decode cX7_isLength 2 = .ok (.ldc2_w 54, 3) := by decide +kernel
theorem dX7_isLength_5 : decode cX7_isLength 5 = .ok (.ldc2_w 56, 3) := by decide +kernel
theorem dX7_isLength_8 : decode cX7_isLength 8 = .ok (.invokestatic 40, 3) := by decide +kernel
theorem dX7_isLength_11 : decode cX7_isLength 11 = .ok (.ireturn, 1) := by decide +kernel
set_option maxRecDepth 20000 in
theorem ggX7_isSetting_X7_in : GoodIn wsX7_isSetting wsX7_in := goodIn_r _ [7] rfl (by decide +kernel)
set_option maxRecDepth 20000 in
theorem gX7_isSetting_X7_in : GoodIn wsX7_isSetting (va_wsS RX7 40 yX7_in wsX7_in) := goodIn_app (goodIn_r _ [4, 5, 6] rfl (by decide +kernel)) ggX7_isSetting_X7_in
theorem dX7_isSetting_0 : decode cX7_isSetting 0 = .ok (.iload_n 0, 1) := by decide +kernel
theorem dX7_isSetting_1 : decode cX7_isSetting 1 = .ok (.ifCond .ne 15, 3) := by decide +kernel
theorem dX7_isSetting_4 : decode cX7_isSetting 4 = .ok (.iload_n 1, 1) := by decide +kernel
theorem dX7_isSetting_5 : decode cX7_isSetting 5 = .ok (.i2l, 1) := by decide +kernel
theorem dX7_isSetting_6 : decode cX7_isSetting 6 = .ok (.lconst 0, 1) := by decide +kernel
theorem dX7_isSetting_7 : decode cX7_isSetting 7 = .ok (.ldc2_w 54, 3) := by decide +kernel
theorem dX7_isSetting_10 : decode cX7_isSetting 10 = .ok (.invokestatic 40, 3) := by decide +kernel
theorem dX7_isSetting_13 : decode cX7_isSetting 13 = .ok (.ifCond .ne 37, 3) := by decide +kernel
theorem dX7_isSetting_16 : decode cX7_isSetting 16 = .ok (.iload_n 0, 1) := by decide +kernel
theorem dX7_isSetting_17 : decode cX7_isSetting 17 = .ok (.iconst 1, 1) := by decide +kernel
theorem dX7_isSetting_18 : decode cX7_isSetting 18 = .ok (.if_icmp .ne 15, 3) := by decide +kernel
theorem dX7_isSetting_21 : decode cX7_isSetting 21 = .ok (.iload_n 1, 1) := by decide +kernel
theorem dX7_isSetting_22 : decode cX7_isSetting 22 = .ok (.i2l, 1) := by decide +kernel
theorem dX7_isSetting_23 : decode cX7_isSetting 23 = .ok (.lconst 0, 1) := by decide +kernel
theorem dX7_isSetting_24 : decode cX7_isSetting 24 = .ok (.ldc2_w 58, 3) := by decide +kernel
theorem dX7_isSetting_27 : decode cX7_isSetting 27 = .ok (.invokestatic 40, 3) := by decide +kernel
theorem dX7_isSetting_30 : decode cX7_isSetting 30 = .ok (.ifCond .ne 20, 3) := by decide +kernel
theorem dX7_isSetting_33 : decode cX7_isSetting 33 = .ok (.iload_n 0, 1) := by decide +kernel
theorem dX7_isSetting_34 : decode cX7_isSetting 34 = .ok (.iconst 2, 1) := by decide +kernel
theorem dX7_isSetting_35 : decode cX7_isSetting 35 = .ok (.if_icmp .ne 19, 3) := by decide +kernel
theorem dX7_isSetting_38 : decode cX7_isSetting 38 = .ok (.iload_n 1, 1) := by decide +kernel
theorem dX7_isSetting_39 : decode cX7_isSetting 39 = .ok (.i2l, 1) := by decide +kernel
theorem dX7_isSetting_40 : decode cX7_isSetting 40 = .ok (.lconst 1, 1) := by decide +kernel
theorem dX7_isSetting_41 : decode cX7_isSetting 41 = .ok (.ldc2_w 60, 3) := by decide +kernel
theorem dX7_isSetting_44 : decode cX7_isSetting 44 = .ok (.invokestatic 40, 3) := by decide +kernel
theorem dX7_isSetting_47 : decode cX7_isSetting 47 = .ok (.ifCond .eq 7, 3) := by decide +kernel
theorem dX7_isSetting_50 : decode cX7_isSetting 50 = .ok (.iconst 1, 1) := by decide +kernel
theorem dX7_isSetting_51 : decode cX7_isSetting 51 = .ok (.goto 4, 3) := by decide +kernel
theorem dX7_isSetting_54 : decode cX7_isSetting 54 = .ok (.iconst 0, 1) := by decide +kernel
theorem dX7_isSetting_55 : decode cX7_isSetting 55 = .ok (.ireturn, 1) := by decide +kernel
set_option maxRecDepth 20000 in
theorem ggX7_many_X7_of : GoodIn wsX7_many wsX7_of := goodIn_r _ [4] rfl (by decide +kernel)
set_option maxRecDepth 20000 in
theorem gX7_many_X7_of : GoodIn wsX7_many (va_wsS RX7 48 yX7_of wsX7_of) := goodIn_app (goodIn_r _ [1, 2, 3] rfl (by decide +kernel)) ggX7_many_X7_of
theorem dX7_many_0 : decode cX7_many 0 = .ok (.iconst 0, 1) := by decide +kernel
theorem dX7_many_1 : decode cX7_many 1 = .ok (.istore_n 2, 1) := by decide +kernel
theorem dX7_many_2 : decode cX7_many 2 = .ok (.iconst 0, 1) := by decide +kernel
theorem dX7_many_3 : decode cX7_many 3 = .ok (.istore_n 3, 1) := by decide +kernel
theorem dX7_many_4 : decode cX7_many 4 = .ok (.iload_n 3, 1) := by decide +kernel
theorem dX7_many_5 : decode cX7_many 5 = .ok (.aload_n 0, 1) := by decide +kernel
theorem dX7_many_6 : decode cX7_many 6 = .ok (.iconst 0, 1) := by decide +kernel
theorem dX7_many_7 : decode cX7_many 7 = .ok (.iaload, 1) := by decide +kernel
theorem dX7_many_8 : decode cX7_many 8 = .ok (.if_icmp .ge 27, 3) := by decide +kernel
theorem dX7_many_11 : decode cX7_many 11 = .ok (.iload_n 2, 1) := by decide +kernel
theorem dX7_many_12 : decode cX7_many 12 = .ok (.aload_n 0, 1) := by decide +kernel
theorem dX7_many_13 : decode cX7_many 13 = .ok (.iload_n 3, 1) := by decide +kernel
theorem dX7_many_14 : decode cX7_many 14 = .ok (.iconst 2, 1) := by decide +kernel
theorem dX7_many_15 : decode cX7_many 15 = .ok (.invokestatic 48, 3) := by decide +kernel
theorem dX7_many_18 : decode cX7_many 18 = .ok (.iload_n 1, 1) := by decide +kernel
theorem dX7_many_19 : decode cX7_many 19 = .ok (.if_icmp .ne 7, 3) := by decide +kernel
theorem dX7_many_22 : decode cX7_many 22 = .ok (.iconst 1, 1) := by decide +kernel
theorem dX7_many_23 : decode cX7_many 23 = .ok (.goto 4, 3) := by decide +kernel
theorem dX7_many_26 : decode cX7_many 26 = .ok (.iconst 0, 1) := by decide +kernel
theorem dX7_many_27 : decode cX7_many 27 = .ok (.iadd, 1) := by decide +kernel
theorem dX7_many_28 : decode cX7_many 28 = .ok (.istore_n 2, 1) := by decide +kernel
theorem dX7_many_29 : decode cX7_many 29 = .ok (.iinc 3 1, 3) := by decide +kernel
theorem dX7_many_32 : decode cX7_many 32 = .ok (.goto (-28), 3) := by decide +kernel
theorem dX7_many_35 : decode cX7_many 35 = .ok (.iload_n 2, 1) := by decide +kernel
theorem dX7_many_36 : decode cX7_many 36 = .ok (.ireturn, 1) := by decide +kernel
theorem dX7_cellsWith_0 : decode cX7_cellsWith 0 = .ok (.iconst 0, 1) := by decide +kernel
theorem dX7_cellsWith_1 : decode cX7_cellsWith 1 = .ok (.istore_n 2, 1) := by decide +kernel
theorem dX7_cellsWith_2 : decode cX7_cellsWith 2 = .ok (.iconst 0, 1) := by decide +kernel
theorem dX7_cellsWith_3 : decode cX7_cellsWith 3 = .ok (.istore_n 3, 1) := by decide +kernel
theorem dX7_cellsWith_4 : decode cX7_cellsWith 4 = .ok (.iload_n 3, 1) := by decide +kernel
theorem dX7_cellsWith_5 : decode cX7_cellsWith 5 = .ok (.bipush 80, 2) := by decide +kernel
theorem dX7_cellsWith_7 : decode cX7_cellsWith 7 = .ok (.if_icmp .ge 27, 3) := by decide +kernel
theorem dX7_cellsWith_10 : decode cX7_cellsWith 10 = .ok (.iload_n 2, 1) := by decide +kernel
theorem dX7_cellsWith_11 : decode cX7_cellsWith 11 = .ok (.aload_n 0, 1) := by decide +kernel
theorem dX7_cellsWith_12 : decode cX7_cellsWith 12 = .ok (.bipush 7, 2) := by decide +kernel
theorem dX7_cellsWith_14 : decode cX7_cellsWith 14 = .ok (.iload_n 3, 1) := by decide +kernel
theorem dX7_cellsWith_15 : decode cX7_cellsWith 15 = .ok (.iadd, 1) := by decide +kernel
theorem dX7_cellsWith_16 : decode cX7_cellsWith 16 = .ok (.iaload, 1) := by decide +kernel
theorem dX7_cellsWith_17 : decode cX7_cellsWith 17 = .ok (.iload_n 1, 1) := by decide +kernel
theorem dX7_cellsWith_18 : decode cX7_cellsWith 18 = .ok (.if_icmp .ne 7, 3) := by decide +kernel
theorem dX7_cellsWith_21 : decode cX7_cellsWith 21 = .ok (.iconst 1, 1) := by decide +kernel
theorem dX7_cellsWith_22 : decode cX7_cellsWith 22 = .ok (.goto 4, 3) := by decide +kernel
theorem dX7_cellsWith_25 : decode cX7_cellsWith 25 = .ok (.iconst 0, 1) := by decide +kernel
theorem dX7_cellsWith_26 : decode cX7_cellsWith 26 = .ok (.iadd, 1) := by decide +kernel
theorem dX7_cellsWith_27 : decode cX7_cellsWith 27 = .ok (.istore_n 2, 1) := by decide +kernel
theorem dX7_cellsWith_28 : decode cX7_cellsWith 28 = .ok (.iinc 3 1, 3) := by decide +kernel
theorem dX7_cellsWith_31 : decode cX7_cellsWith 31 = .ok (.goto (-27), 3) := by decide +kernel
theorem dX7_cellsWith_34 : decode cX7_cellsWith 34 = .ok (.iload_n 2, 1) := by decide +kernel
theorem dX7_cellsWith_35 : decode cX7_cellsWith 35 = .ok (.ireturn, 1) := by decide +kernel
theorem dX7_gapFrom_0 : decode cX7_gapFrom 0 = .ok (.iload_n 1, 1) := by decide +kernel
theorem dX7_gapFrom_1 : decode cX7_gapFrom 1 = .ok (.istore_n 2, 1) := by decide +kernel
theorem dX7_gapFrom_2 : decode cX7_gapFrom 2 = .ok (.iload_n 2, 1) := by decide +kernel
theorem dX7_gapFrom_3 : decode cX7_gapFrom 3 = .ok (.bipush 80, 2) := by decide +kernel
theorem dX7_gapFrom_5 : decode cX7_gapFrom 5 = .ok (.if_icmp .ge 19, 3) := by decide +kernel
theorem dX7_gapFrom_8 : decode cX7_gapFrom 8 = .ok (.aload_n 0, 1) := by decide +kernel
theorem dX7_gapFrom_9 : decode cX7_gapFrom 9 = .ok (.bipush 7, 2) := by decide +kernel
theorem dX7_gapFrom_11 : decode cX7_gapFrom 11 = .ok (.iload_n 2, 1) := by decide +kernel
theorem dX7_gapFrom_12 : decode cX7_gapFrom 12 = .ok (.iadd, 1) := by decide +kernel
theorem dX7_gapFrom_13 : decode cX7_gapFrom 13 = .ok (.iaload, 1) := by decide +kernel
theorem dX7_gapFrom_14 : decode cX7_gapFrom 14 = .ok (.iconst (-1), 1) := by decide +kernel
theorem dX7_gapFrom_15 : decode cX7_gapFrom 15 = .ok (.if_icmp .eq 9, 3) := by decide +kernel
theorem dX7_gapFrom_18 : decode cX7_gapFrom 18 = .ok (.iinc 2 1, 3) := by decide +kernel
theorem dX7_gapFrom_21 : decode cX7_gapFrom 21 = .ok (.goto (-19), 3) := by decide +kernel
theorem dX7_gapFrom_24 : decode cX7_gapFrom 24 = .ok (.iload_n 2, 1) := by decide +kernel
theorem dX7_gapFrom_25 : decode cX7_gapFrom 25 = .ok (.ireturn, 1) := by decide +kernel
theorem dX7_gapCells_0 : decode cX7_gapCells 0 = .ok (.iload_n 1, 1) := by decide +kernel
theorem dX7_gapCells_1 : decode cX7_gapCells 1 = .ok (.istore_n 2, 1) := by decide +kernel
theorem dX7_gapCells_2 : decode cX7_gapCells 2 = .ok (.iload_n 2, 1) := by decide +kernel
theorem dX7_gapCells_3 : decode cX7_gapCells 3 = .ok (.bipush 80, 2) := by decide +kernel
theorem dX7_gapCells_5 : decode cX7_gapCells 5 = .ok (.if_icmp .ge 19, 3) := by decide +kernel
theorem dX7_gapCells_8 : decode cX7_gapCells 8 = .ok (.aload_n 0, 1) := by decide +kernel
theorem dX7_gapCells_9 : decode cX7_gapCells 9 = .ok (.bipush 7, 2) := by decide +kernel
theorem dX7_gapCells_11 : decode cX7_gapCells 11 = .ok (.iload_n 2, 1) := by decide +kernel
theorem dX7_gapCells_12 : decode cX7_gapCells 12 = .ok (.iadd, 1) := by decide +kernel
theorem dX7_gapCells_13 : decode cX7_gapCells 13 = .ok (.iaload, 1) := by decide +kernel
theorem dX7_gapCells_14 : decode cX7_gapCells 14 = .ok (.iconst (-1), 1) := by decide +kernel
theorem dX7_gapCells_15 : decode cX7_gapCells 15 = .ok (.if_icmp .ne 9, 3) := by decide +kernel
theorem dX7_gapCells_18 : decode cX7_gapCells 18 = .ok (.iinc 2 1, 3) := by decide +kernel
theorem dX7_gapCells_21 : decode cX7_gapCells 21 = .ok (.goto (-19), 3) := by decide +kernel
theorem dX7_gapCells_24 : decode cX7_gapCells 24 = .ok (.iload_n 2, 1) := by decide +kernel
theorem dX7_gapCells_25 : decode cX7_gapCells 25 = .ok (.iload_n 1, 1) := by decide +kernel
theorem dX7_gapCells_26 : decode cX7_gapCells 26 = .ok (.isub, 1) := by decide +kernel
theorem dX7_gapCells_27 : decode cX7_gapCells 27 = .ok (.ireturn, 1) := by decide +kernel
set_option maxRecDepth 20000 in
theorem ggX7_nextGap_X7_gapCells : GoodIn wsX7_nextGap wsX7_gapCells := goodIn_r _ [4] rfl (by decide +kernel)
set_option maxRecDepth 20000 in
theorem gX7_nextGap_X7_gapCells : GoodIn wsX7_nextGap (va_wsS RX7 62 yX7_gapCells wsX7_gapCells) := goodIn_app (goodIn_r _ [1, 2, 3] rfl (by decide +kernel)) ggX7_nextGap_X7_gapCells
set_option maxRecDepth 20000 in
theorem ggX7_nextGap_X7_gapFrom : GoodIn wsX7_nextGap wsX7_gapFrom := goodIn_r _ [7] rfl (by decide +kernel)
set_option maxRecDepth 20000 in
theorem gX7_nextGap_X7_gapFrom : GoodIn wsX7_nextGap (va_wsS RX7 66 yX7_gapFrom wsX7_gapFrom) := goodIn_app (goodIn_r _ [5, 6, 3] rfl (by decide +kernel)) ggX7_nextGap_X7_gapFrom
theorem dX7_nextGap_0 : decode cX7_nextGap 0 = .ok (.aload_n 0, 1) := by decide +kernel
theorem dX7_nextGap_1 : decode cX7_nextGap 1 = .ok (.iload_n 1, 1) := by decide +kernel
theorem dX7_nextGap_2 : decode cX7_nextGap 2 = .ok (.aload_n 0, 1) := by decide +kernel
theorem dX7_nextGap_3 : decode cX7_nextGap 3 = .ok (.iload_n 1, 1) := by decide +kernel
theorem dX7_nextGap_4 : decode cX7_nextGap 4 = .ok (.invokestatic 62, 3) := by decide +kernel
theorem dX7_nextGap_7 : decode cX7_nextGap 7 = .ok (.iadd, 1) := by decide +kernel
theorem dX7_nextGap_8 : decode cX7_nextGap 8 = .ok (.invokestatic 66, 3) := by decide +kernel
theorem dX7_nextGap_11 : decode cX7_nextGap 11 = .ok (.ireturn, 1) := by decide +kernel
set_option maxRecDepth 20000 in
theorem ggX7_longest_X7_gapFrom : GoodIn wsX7_longest wsX7_gapFrom := goodIn_r _ [4] rfl (by decide +kernel)
set_option maxRecDepth 20000 in
theorem gX7_longest_X7_gapFrom : GoodIn wsX7_longest (va_wsS RX7 66 yX7_gapFrom wsX7_gapFrom) := goodIn_app (goodIn_r _ [1, 2, 3] rfl (by decide +kernel)) ggX7_longest_X7_gapFrom
set_option maxRecDepth 20000 in
theorem ggX7_longest_X7_gapCells : GoodIn wsX7_longest wsX7_gapCells := goodIn_r _ [7] rfl (by decide +kernel)
set_option maxRecDepth 20000 in
theorem gX7_longest_X7_gapCells : GoodIn wsX7_longest (va_wsS RX7 62 yX7_gapCells wsX7_gapCells) := goodIn_app (goodIn_r _ [5, 6, 3] rfl (by decide +kernel)) ggX7_longest_X7_gapCells
set_option maxRecDepth 20000 in
theorem ggX7_longest_X7_nextGap : GoodIn wsX7_longest wsX7_nextGap := goodIn_r _ [10, 5, 6, 3, 7, 1, 2, 4] rfl (by decide +kernel)
set_option maxRecDepth 20000 in
theorem gX7_longest_X7_nextGap : GoodIn wsX7_longest (va_wsS RX7 69 yX7_nextGap wsX7_nextGap) := goodIn_app (goodIn_r _ [8, 9, 3] rfl (by decide +kernel)) ggX7_longest_X7_nextGap
theorem dX7_longest_0 : decode cX7_longest 0 = .ok (.iconst 0, 1) := by decide +kernel
theorem dX7_longest_1 : decode cX7_longest 1 = .ok (.istore_n 1, 1) := by decide +kernel
theorem dX7_longest_2 : decode cX7_longest 2 = .ok (.aload_n 0, 1) := by decide +kernel
theorem dX7_longest_3 : decode cX7_longest 3 = .ok (.iconst 0, 1) := by decide +kernel
theorem dX7_longest_4 : decode cX7_longest 4 = .ok (.invokestatic 66, 3) := by decide +kernel
theorem dX7_longest_7 : decode cX7_longest 7 = .ok (.istore_n 2, 1) := by decide +kernel
theorem dX7_longest_8 : decode cX7_longest 8 = .ok (.iload_n 2, 1) := by decide +kernel
theorem dX7_longest_9 : decode cX7_longest 9 = .ok (.bipush 80, 2) := by decide +kernel
theorem dX7_longest_11 : decode cX7_longest 11 = .ok (.if_icmp .ge 31, 3) := by decide +kernel
theorem dX7_longest_14 : decode cX7_longest 14 = .ok (.aload_n 0, 1) := by decide +kernel
theorem dX7_longest_15 : decode cX7_longest 15 = .ok (.iload_n 2, 1) := by decide +kernel
theorem dX7_longest_16 : decode cX7_longest 16 = .ok (.invokestatic 62, 3) := by decide +kernel
theorem dX7_longest_19 : decode cX7_longest 19 = .ok (.iload_n 1, 1) := by decide +kernel
theorem dX7_longest_20 : decode cX7_longest 20 = .ok (.if_icmp .le 11, 3) := by decide +kernel
theorem dX7_longest_23 : decode cX7_longest 23 = .ok (.aload_n 0, 1) := by decide +kernel
theorem dX7_longest_24 : decode cX7_longest 24 = .ok (.iload_n 2, 1) := by decide +kernel
theorem dX7_longest_25 : decode cX7_longest 25 = .ok (.invokestatic 62, 3) := by decide +kernel
theorem dX7_longest_28 : decode cX7_longest 28 = .ok (.goto 4, 3) := by decide +kernel
theorem dX7_longest_31 : decode cX7_longest 31 = .ok (.iload_n 1, 1) := by decide +kernel
theorem dX7_longest_32 : decode cX7_longest 32 = .ok (.istore_n 1, 1) := by decide +kernel
theorem dX7_longest_33 : decode cX7_longest 33 = .ok (.aload_n 0, 1) := by decide +kernel
theorem dX7_longest_34 : decode cX7_longest 34 = .ok (.iload_n 2, 1) := by decide +kernel
theorem dX7_longest_35 : decode cX7_longest 35 = .ok (.invokestatic 69, 3) := by decide +kernel
theorem dX7_longest_38 : decode cX7_longest 38 = .ok (.istore_n 2, 1) := by decide +kernel
theorem dX7_longest_39 : decode cX7_longest 39 = .ok (.goto (-31), 3) := by decide +kernel
theorem dX7_longest_42 : decode cX7_longest 42 = .ok (.iload_n 1, 1) := by decide +kernel
theorem dX7_longest_43 : decode cX7_longest 43 = .ok (.ireturn, 1) := by decide +kernel
set_option maxRecDepth 20000 in
theorem ggX7_gaps_X7_gapFrom : GoodIn wsX7_gaps wsX7_gapFrom := goodIn_r _ [4] rfl (by decide +kernel)
set_option maxRecDepth 20000 in
theorem gX7_gaps_X7_gapFrom : GoodIn wsX7_gaps (va_wsS RX7 66 yX7_gapFrom wsX7_gapFrom) := goodIn_app (goodIn_r _ [1, 2, 3] rfl (by decide +kernel)) ggX7_gaps_X7_gapFrom
set_option maxRecDepth 20000 in
theorem ggX7_gaps_X7_nextGap : GoodIn wsX7_gaps wsX7_nextGap := goodIn_r _ [7, 8, 9, 3, 10, 1, 2, 4] rfl (by decide +kernel)
set_option maxRecDepth 20000 in
theorem gX7_gaps_X7_nextGap : GoodIn wsX7_gaps (va_wsS RX7 69 yX7_nextGap wsX7_nextGap) := goodIn_app (goodIn_r _ [5, 6, 3] rfl (by decide +kernel)) ggX7_gaps_X7_nextGap
theorem dX7_gaps_0 : decode cX7_gaps 0 = .ok (.iconst 0, 1) := by decide +kernel
theorem dX7_gaps_1 : decode cX7_gaps 1 = .ok (.istore_n 1, 1) := by decide +kernel
theorem dX7_gaps_2 : decode cX7_gaps 2 = .ok (.aload_n 0, 1) := by decide +kernel
theorem dX7_gaps_3 : decode cX7_gaps 3 = .ok (.iconst 0, 1) := by decide +kernel
theorem dX7_gaps_4 : decode cX7_gaps 4 = .ok (.invokestatic 66, 3) := by decide +kernel
theorem dX7_gaps_7 : decode cX7_gaps 7 = .ok (.istore_n 2, 1) := by decide +kernel
theorem dX7_gaps_8 : decode cX7_gaps 8 = .ok (.iload_n 2, 1) := by decide +kernel
theorem dX7_gaps_9 : decode cX7_gaps 9 = .ok (.bipush 80, 2) := by decide +kernel
theorem dX7_gaps_11 : decode cX7_gaps 11 = .ok (.if_icmp .ge 15, 3) := by decide +kernel
theorem dX7_gaps_14 : decode cX7_gaps 14 = .ok (.iinc 1 1, 3) := by decide +kernel
theorem dX7_gaps_17 : decode cX7_gaps 17 = .ok (.aload_n 0, 1) := by decide +kernel
theorem dX7_gaps_18 : decode cX7_gaps 18 = .ok (.iload_n 2, 1) := by decide +kernel
theorem dX7_gaps_19 : decode cX7_gaps 19 = .ok (.invokestatic 69, 3) := by decide +kernel
theorem dX7_gaps_22 : decode cX7_gaps 22 = .ok (.istore_n 2, 1) := by decide +kernel
theorem dX7_gaps_23 : decode cX7_gaps 23 = .ok (.goto (-15), 3) := by decide +kernel
theorem dX7_gaps_26 : decode cX7_gaps 26 = .ok (.iload_n 1, 1) := by decide +kernel
theorem dX7_gaps_27 : decode cX7_gaps 27 = .ok (.ireturn, 1) := by decide +kernel
set_option maxRecDepth 20000 in
theorem ggX7_gapOf_X7_gapFrom : GoodIn wsX7_gapOf wsX7_gapFrom := goodIn_r _ [4] rfl (by decide +kernel)
set_option maxRecDepth 20000 in
theorem gX7_gapOf_X7_gapFrom : GoodIn wsX7_gapOf (va_wsS RX7 66 yX7_gapFrom wsX7_gapFrom) := goodIn_app (goodIn_r _ [1, 2, 3] rfl (by decide +kernel)) ggX7_gapOf_X7_gapFrom
set_option maxRecDepth 20000 in
theorem ggX7_gapOf_X7_nextGap : GoodIn wsX7_gapOf wsX7_nextGap := goodIn_r _ [7, 8, 9, 3, 10, 1, 2, 4] rfl (by decide +kernel)
set_option maxRecDepth 20000 in
theorem gX7_gapOf_X7_nextGap : GoodIn wsX7_gapOf (va_wsS RX7 69 yX7_nextGap wsX7_nextGap) := goodIn_app (goodIn_r _ [5, 6, 3] rfl (by decide +kernel)) ggX7_gapOf_X7_nextGap
theorem dX7_gapOf_0 : decode cX7_gapOf 0 = .ok (.aload_n 0, 1) := by decide +kernel
theorem dX7_gapOf_1 : decode cX7_gapOf 1 = .ok (.iconst 0, 1) := by decide +kernel
theorem dX7_gapOf_2 : decode cX7_gapOf 2 = .ok (.invokestatic 66, 3) := by decide +kernel
theorem dX7_gapOf_5 : decode cX7_gapOf 5 = .ok (.istore_n 2, 1) := by decide +kernel
theorem dX7_gapOf_6 : decode cX7_gapOf 6 = .ok (.iconst 0, 1) := by decide +kernel
theorem dX7_gapOf_7 : decode cX7_gapOf 7 = .ok (.istore_n 3, 1) := by decide +kernel
theorem dX7_gapOf_8 : decode cX7_gapOf 8 = .ok (.iload_n 3, 1) := by decide +kernel
theorem dX7_gapOf_9 : decode cX7_gapOf 9 = .ok (.iload_n 1, 1) := by decide +kernel
theorem dX7_gapOf_10 : decode cX7_gapOf 10 = .ok (.if_icmp .ge 21, 3) := by decide +kernel
theorem dX7_gapOf_13 : decode cX7_gapOf 13 = .ok (.iload_n 2, 1) := by decide +kernel
theorem dX7_gapOf_14 : decode cX7_gapOf 14 = .ok (.bipush 80, 2) := by decide +kernel
theorem dX7_gapOf_16 : decode cX7_gapOf 16 = .ok (.if_icmp .ge 15, 3) := by decide +kernel
theorem dX7_gapOf_19 : decode cX7_gapOf 19 = .ok (.aload_n 0, 1) := by decide +kernel
theorem dX7_gapOf_20 : decode cX7_gapOf 20 = .ok (.iload_n 2, 1) := by decide +kernel
theorem dX7_gapOf_21 : decode cX7_gapOf 21 = .ok (.invokestatic 69, 3) := by decide +kernel
theorem dX7_gapOf_24 : decode cX7_gapOf 24 = .ok (.istore_n 2, 1) := by decide +kernel
theorem dX7_gapOf_25 : decode cX7_gapOf 25 = .ok (.iinc 3 1, 3) := by decide +kernel
theorem dX7_gapOf_28 : decode cX7_gapOf 28 = .ok (.goto (-20), 3) := by decide +kernel
theorem dX7_gapOf_31 : decode cX7_gapOf 31 = .ok (.iload_n 2, 1) := by decide +kernel
theorem dX7_gapOf_32 : decode cX7_gapOf 32 = .ok (.ireturn, 1) := by decide +kernel
set_option maxRecDepth 20000 in
theorem ggX7_suffices_X7_longest : GoodIn wsX7_suffices wsX7_longest := goodIn_r _ [4, 5, 6, 3, 7, 8, 9, 10, 11, 12, 13] rfl (by decide +kernel)
set_option maxRecDepth 20000 in
theorem gX7_suffices_X7_longest : GoodIn wsX7_suffices (va_wsS RX7 72 yX7_longest wsX7_longest) := goodIn_app (goodIn_r _ [1, 2, 3] rfl (by decide +kernel)) ggX7_suffices_X7_longest
theorem dX7_suffices_0 : decode cX7_suffices 0 = .ok (.aload_n 0, 1) := by decide +kernel
theorem dX7_suffices_1 : decode cX7_suffices 1 = .ok (.invokestatic 72, 3) := by decide +kernel
theorem dX7_suffices_4 : decode cX7_suffices 4 = .ok (.iload_n 1, 1) := by decide +kernel
theorem dX7_suffices_5 : decode cX7_suffices 5 = .ok (.aload_n 0, 1) := by decide +kernel
theorem dX7_suffices_6 : decode cX7_suffices 6 = .ok (.iconst 3, 1) := by decide +kernel
theorem dX7_suffices_7 : decode cX7_suffices 7 = .ok (.iaload, 1) := by decide +kernel
theorem dX7_suffices_8 : decode cX7_suffices 8 = .ok (.iadd, 1) := by decide +kernel
theorem dX7_suffices_9 : decode cX7_suffices 9 = .ok (.if_icmp .lt 7, 3) := by decide +kernel
theorem dX7_suffices_12 : decode cX7_suffices 12 = .ok (.iconst 1, 1) := by decide +kernel
theorem dX7_suffices_13 : decode cX7_suffices 13 = .ok (.goto 4, 3) := by decide +kernel
theorem dX7_suffices_16 : decode cX7_suffices 16 = .ok (.iconst 0, 1) := by decide +kernel
theorem dX7_suffices_17 : decode cX7_suffices 17 = .ok (.ireturn, 1) := by decide +kernel
set_option maxRecDepth 20000 in
theorem ggX7_reason_X7_longest : GoodIn wsX7_reason wsX7_longest := goodIn_r _ [4, 5, 6, 3, 7, 8, 9, 10, 11, 12, 13] rfl (by decide +kernel)
set_option maxRecDepth 20000 in
theorem gX7_reason_X7_longest : GoodIn wsX7_reason (va_wsS RX7 72 yX7_longest wsX7_longest) := goodIn_app (goodIn_r _ [1, 2, 3] rfl (by decide +kernel)) ggX7_reason_X7_longest
set_option maxRecDepth 20000 in
theorem ggX7_reason_X7_suffices : GoodIn wsX7_reason wsX7_suffices := goodIn_r _ [16, 1, 2, 3, 4, 5, 6, 7, 8, 9, 10, 11, 12, 13] rfl (by decide +kernel)
set_option maxRecDepth 20000 in
theorem gX7_reason_X7_suffices : GoodIn wsX7_reason (va_wsS RX7 76 yX7_suffices wsX7_suffices) := goodIn_app (goodIn_r _ [14, 15, 3] rfl (by decide +kernel)) ggX7_reason_X7_suffices
theorem dX7_reason_0 : decode cX7_reason 0 = .ok (.aload_n 0, 1) := by decide +kernel
theorem dX7_reason_1 : decode cX7_reason 1 = .ok (.invokestatic 72, 3) := by decide +kernel
theorem dX7_reason_4 : decode cX7_reason 4 = .ok (.iload_n 1, 1) := by decide +kernel
theorem dX7_reason_5 : decode cX7_reason 5 = .ok (.if_icmp .ge 7, 3) := by decide +kernel
