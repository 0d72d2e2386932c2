set_option maxRecDepth 20000 in
theorem gX6_why_X6_requireLength : GoodIn wsX6_why (va_wsS RX6 187 yX6_requireLength wsX6_requireLength) := goodIn_app (goodIn_r _ [2, 3, 4] rfl (by decide +kernel)) ggX6_why_X6_requireLength
set_option maxRecDepth 20000 in
theorem ggX6_why_X4_reasonAgainst : GoodIn wsX6_why wsX4_reasonAgainst := goodIn_r _ [14, 15, 16, 17, 18, 12, 19, 20, 26, 27, 28, 29, 30, 31, 32, 33, 34, 35, 36, 37, 38, 39] rfl (by decide +kernel)
set_option maxRecDepth 20000 in
theorem gX6_why_X4_reasonAgainst_n244 : GoodIn wsX6_why (wsX4_reasonAgainst) := ggX6_why_X4_reasonAgainst
theorem dX6_why_0 : decode cX6_why 0 = .ok (.iload_n 1, 1) := by decide +kernel
theorem dX6_why_1 : decode cX6_why 1 = .ok (.invokestatic 187, 3) := by decide +kernel
theorem dX6_why_4 : decode cX6_why 4 = .ok (.aload_n 0, 1) := by decide +kernel
theorem dX6_why_5 : decode cX6_why 5 = .ok (.getfield 19, 3) := by decide +kernel
theorem dX6_why_8 : decode cX6_why 8 = .ok (.iload_n 1, 1) := by decide +kernel
theorem dX6_why_9 : decode cX6_why 9 = .ok (.invokevirtual 244, 3) := by decide +kernel
theorem dX6_why_12 : decode cX6_why 12 = .ok (.ireturn, 1) := by decide +kernel
set_option maxRecDepth 20000 in
theorem ggX6_place_X6_requireLength : GoodIn wsX6_place wsX6_requireLength := goodIn_ca (goodIn_r _ [5, 6, 7, 8, 9, 4, 10] rfl (by decide +kernel)) (goodIn_sub (fun _ h => List.mem_cons_of_mem _ (List.mem_append_right _ h)) (by decide +kernel))
set_option maxRecDepth 20000 in
theorem gX6_place_X6_requireLength : GoodIn wsX6_place (va_wsS RX6 187 yX6_requireLength wsX6_requireLength) := goodIn_app (goodIn_r _ [2, 3, 4] rfl (by decide +kernel)) ggX6_place_X6_requireLength
set_option maxRecDepth 20000 in
theorem ggX6_place_X4_chosenPlace : GoodIn wsX6_place wsX4_chosenPlace := goodIn_r _ [14, 15, 16, 17, 4, 18, 19, 20, 21, 22, 23, 12, 24, 25, 26, 27, 28, 29, 30, 31, 32, 33, 34, 40, 41, 42, 43, 44, 45, 46, 47, 48, 49, 50, 51, 52, 53] rfl (by decide +kernel)
set_option maxRecDepth 20000 in
theorem gX6_place_X4_chosenPlace_n247 : GoodIn wsX6_place (wsX4_chosenPlace) := ggX6_place_X4_chosenPlace
theorem dX6_place_0 : decode cX6_place 0 = .ok (.iload_n 1, 1) := by decide +kernel
theorem dX6_place_1 : decode cX6_place 1 = .ok (.invokestatic 187, 3) := by decide +kernel
theorem dX6_place_4 : decode cX6_place 4 = .ok (.aload_n 0, 1) := by decide +kernel
theorem dX6_place_5 : decode cX6_place 5 = .ok (.getfield 19, 3) := by decide +kernel
theorem dX6_place_8 : decode cX6_place 8 = .ok (.iload_n 1, 1) := by decide +kernel
theorem dX6_place_9 : decode cX6_place 9 = .ok (.invokevirtual 247, 3) := by decide +kernel
theorem dX6_place_12 : decode cX6_place 12 = .ok (.ireturn, 1) := by decide +kernel
set_option maxRecDepth 20000 in
theorem ggX6_fits_X6_requireLength : GoodIn wsX6_fits wsX6_requireLength := goodIn_ca (goodIn_r _ [6, 7, 8, 9, 10, 5, 11] rfl (by decide +kernel)) (goodIn_sub (fun _ h => List.mem_cons_of_mem _ (List.mem_append_right _ h)) (by decide +kernel))
set_option maxRecDepth 20000 in
theorem gX6_fits_X6_requireLength : GoodIn wsX6_fits (va_wsS RX6 187 yX6_requireLength wsX6_requireLength) := goodIn_app (goodIn_r _ [3, 4, 5] rfl (by decide +kernel)) ggX6_fits_X6_requireLength
set_option maxRecDepth 20000 in
theorem ggX6_fits_X6_requireZeroOrOne : GoodIn wsX6_fits wsX6_requireZeroOrOne := goodIn_ca (goodIn_r _ [14, 7, 8] rfl (by decide +kernel)) (goodIn_sub (fun _ h => List.mem_cons_of_mem _ (List.mem_append_right _ h)) (by decide +kernel))
set_option maxRecDepth 20000 in
theorem gX6_fits_X6_requireZeroOrOne : GoodIn wsX6_fits (va_wsS RX6 162 yX6_requireZeroOrOne wsX6_requireZeroOrOne) := goodIn_app (goodIn_r _ [12, 13, 5] rfl (by decide +kernel)) ggX6_fits_X6_requireZeroOrOne
set_option maxRecDepth 20000 in
theorem ggX6_fits_X4_fittingByGaps : GoodIn wsX6_fits wsX4_fittingByGaps := goodIn_r _ [18, 19, 20, 84, 85, 86, 87, 88, 89, 90, 91, 92, 93, 94, 95, 96, 97] rfl (by decide +kernel)
set_option maxRecDepth 20000 in
theorem gX6_fits_X4_fittingByGaps_n250 : GoodIn wsX6_fits (wsX4_fittingByGaps) := ggX6_fits_X4_fittingByGaps
set_option maxRecDepth 20000 in
theorem ggX6_fits_X4_copyFrom : GoodIn wsX6_fits wsX4_copyFrom := goodIn_r _ [23, 24, 19, 25, 26, 27, 28, 29, 30, 31, 32, 33, 34, 20, 35, 36, 5, 37, 38, 39, 40, 41, 84, 85, 86, 87, 88, 89, 90, 91, 92, 93, 94, 95, 96, 97] rfl (by decide +kernel)
set_option maxRecDepth 20000 in
theorem gX6_fits_X4_copyFrom_n253 : GoodIn wsX6_fits (wsX4_copyFrom) := ggX6_fits_X4_copyFrom
set_option maxRecDepth 20000 in
theorem ggX6_fits_X4_fillWith : GoodIn wsX6_fits wsX4_fillWith := goodIn_r _ [44, 45, 46, 47, 16, 48, 34, 33, 49, 5, 50, 51, 52, 53, 54, 55, 56, 19, 20, 57, 58, 59, 60, 61, 62, 63, 64, 65, 66, 67, 68, 69, 70, 71, 72, 24, 73, 74, 75, 76, 77, 78, 84, 85, 86, 87, 88, 89, 90, 91, 92, 93, 94, 95, 96, 97] rfl (by decide +kernel)
set_option maxRecDepth 20000 in
theorem gX6_fits_X4_fillWith_n259 : GoodIn wsX6_fits (wsX4_fillWith) := ggX6_fits_X4_fillWith
theorem dX6_fits_0 : decode cX6_fits 0 = .ok (.iload_n 1, 1) := by decide +kernel
theorem dX6_fits_1 : decode cX6_fits 1 = .ok (.invokestatic 187, 3) := by decide +kernel
theorem dX6_fits_4 : decode cX6_fits 4 = .ok (.iload_n 2, 1) := by decide +kernel
theorem dX6_fits_5 : decode cX6_fits 5 = .ok (.invokestatic 162, 3) := by decide +kernel
theorem dX6_fits_8 : decode cX6_fits 8 = .ok (.iload_n 2, 1) := by decide +kernel
theorem dX6_fits_9 : decode cX6_fits 9 = .ok (.iconst 1, 1) := by decide +kernel
theorem dX6_fits_10 : decode cX6_fits 10 = .ok (.if_icmp .ne 12, 3) := by decide +kernel
theorem dX6_fits_13 : decode cX6_fits 13 = .ok (.aload_n 0, 1) := by decide +kernel
theorem dX6_fits_14 : decode cX6_fits 14 = .ok (.getfield 19, 3) := by decide +kernel
theorem dX6_fits_17 : decode cX6_fits 17 = .ok (.iload_n 1, 1) := by decide +kernel
theorem dX6_fits_18 : decode cX6_fits 18 = .ok (.invokevirtual 250, 3) := by decide +kernel
theorem dX6_fits_21 : decode cX6_fits 21 = .ok (.ireturn, 1) := by decide +kernel
theorem dX6_fits_22 : decode cX6_fits 22 = .ok (.aload_n 0, 1) := by decide +kernel
theorem dX6_fits_23 : decode cX6_fits 23 = .ok (.getfield 23, 3) := by decide +kernel
theorem dX6_fits_26 : decode cX6_fits 26 = .ok (.aload_n 0, 1) := by decide +kernel
theorem dX6_fits_27 : decode cX6_fits 27 = .ok (.getfield 19, 3) := by decide +kernel
theorem dX6_fits_30 : decode cX6_fits 30 = .ok (.invokevirtual 253, 3) := by decide +kernel
theorem dX6_fits_33 : decode cX6_fits 33 = .ok (.aload_n 0, 1) := by decide +kernel
theorem dX6_fits_34 : decode cX6_fits 34 = .ok (.getfield 23, 3) := by decide +kernel
theorem dX6_fits_37 : decode cX6_fits 37 = .ok (.iconst 0, 1) := by decide +kernel
theorem dX6_fits_38 : decode cX6_fits 38 = .ok (.putfield 256, 3) := by decide +kernel
theorem dX6_fits_41 : decode cX6_fits 41 = .ok (.aload_n 0, 1) := by decide +kernel
theorem dX6_fits_42 : decode cX6_fits 42 = .ok (.getfield 23, 3) := by decide +kernel
theorem dX6_fits_45 : decode cX6_fits 45 = .ok (.iload_n 1, 1) := by decide +kernel
theorem dX6_fits_46 : decode cX6_fits 46 = .ok (.invokevirtual 259, 3) := by decide +kernel
theorem dX6_fits_49 : decode cX6_fits 49 = .ok (.ireturn, 1) := by decide +kernel
set_option maxRecDepth 20000 in
theorem ggX6_gapIn_X6_requireLength : GoodIn wsX6_gapIn wsX6_requireLength := goodIn_ca (goodIn_r _ [6, 7, 8, 9, 10, 5, 11] rfl (by decide +kernel)) (goodIn_sub (fun _ h => List.mem_cons_of_mem _ (List.mem_append_right _ h)) (by decide +kernel))
set_option maxRecDepth 20000 in
theorem gX6_gapIn_X6_requireLength : GoodIn wsX6_gapIn (va_wsS RX6 187 yX6_requireLength wsX6_requireLength) := goodIn_app (goodIn_r _ [3, 4, 5] rfl (by decide +kernel)) ggX6_gapIn_X6_requireLength
set_option maxRecDepth 20000 in
theorem ggX6_gapIn_X4_copyFrom : GoodIn wsX6_gapIn wsX4_copyFrom := goodIn_r _ [15, 16, 17, 18, 19, 20, 21, 22, 23, 24, 25, 26, 27, 28, 29, 30, 5, 31, 32, 33, 34, 35, 121, 122, 123, 124, 125, 126, 127, 128, 129, 130, 131, 132, 133, 134] rfl (by decide +kernel)
set_option maxRecDepth 20000 in
theorem gX6_gapIn_X4_copyFrom_n253 : GoodIn wsX6_gapIn (wsX4_copyFrom) := ggX6_gapIn_X4_copyFrom
set_option maxRecDepth 20000 in
theorem ggX6_gapIn_X4_reasonAgainst : GoodIn wsX6_gapIn wsX4_reasonAgainst := goodIn_r _ [38, 28, 39, 40, 41, 13, 42, 17, 121, 122, 123, 124, 125, 126, 127, 128, 129, 130, 131, 132, 133, 134] rfl (by decide +kernel)
set_option maxRecDepth 20000 in
theorem gX6_gapIn_X4_reasonAgainst_n244 : GoodIn wsX6_gapIn (wsX4_reasonAgainst) := ggX6_gapIn_X4_reasonAgainst
set_option maxRecDepth 20000 in
theorem ggX6_gapIn_X4_passMinutes : GoodIn wsX6_gapIn wsX4_passMinutes := goodIn_r _ [45, 25, 46, 5, 47, 48, 49, 50, 13, 51, 24, 22, 52, 53, 54, 55, 20, 56, 57, 58, 59, 60, 61, 62, 63, 64, 65, 66, 67, 19, 68, 69, 70, 71, 21, 18, 72, 73, 74, 75, 16, 76, 77, 78, 79, 17, 80, 81, 82, 83, 84, 85, 86, 87, 88, 89, 90, 91, 27, 26, 92, 93, 94, 95, 96, 97, 98, 99, 28, 100, 101, 102, 103, 104, 105, 106, 107, 108, 109, 110, 111, 112, 113, 114, 115, 23, 29, 121, 122, 123, 124, 125, 126, 127, 128, 129, 130, 131, 132, 133, 134] rfl (by decide +kernel)
set_option maxRecDepth 20000 in
theorem gX6_gapIn_X4_passMinutes_n224 : GoodIn wsX6_gapIn (wsX4_passMinutes) := ggX6_gapIn_X4_passMinutes
theorem dX6_gapIn_0 : decode cX6_gapIn 0 = .ok (.iload_n 1, 1) := by decide +kernel
theorem dX6_gapIn_1 : decode cX6_gapIn 1 = .ok (.invokestatic 187, 3) := by decide +kernel
theorem dX6_gapIn_4 : decode cX6_gapIn 4 = .ok (.aload_n 0, 1) := by decide +kernel
theorem dX6_gapIn_5 : decode cX6_gapIn 5 = .ok (.getfield 23, 3) := by decide +kernel
theorem dX6_gapIn_8 : decode cX6_gapIn 8 = .ok (.aload_n 0, 1) := by decide +kernel
theorem dX6_gapIn_9 : decode cX6_gapIn 9 = .ok (.getfield 19, 3) := by decide +kernel
theorem dX6_gapIn_12 : decode cX6_gapIn 12 = .ok (.invokevirtual 253, 3) := by decide +kernel
theorem dX6_gapIn_15 : decode cX6_gapIn 15 = .ok (.iconst 0, 1) := by decide +kernel
theorem dX6_gapIn_16 : decode cX6_gapIn 16 = .ok (.istore_n 2, 1) := by decide +kernel
theorem dX6_gapIn_17 : decode cX6_gapIn 17 = .ok (.iload_n 2, 1) := by decide +kernel
theorem dX6_gapIn_18 : decode cX6_gapIn 18 = .ok (.bipush 100, 2) := by decide +kernel
theorem dX6_gapIn_20 : decode cX6_gapIn 20 = .ok (.if_icmp .gt 31, 3) := by decide +kernel
theorem dX6_gapIn_23 : decode cX6_gapIn 23 = .ok (.aload_n 0, 1) := by decide +kernel
theorem dX6_gapIn_24 : decode cX6_gapIn 24 = .ok (.getfield 23, 3) := by decide +kernel
theorem dX6_gapIn_27 : decode cX6_gapIn 27 = .ok (.iload_n 1, 1) := by decide +kernel
theorem dX6_gapIn_28 : decode cX6_gapIn 28 = .ok (.invokevirtual 244, 3) := by decide +kernel
theorem dX6_gapIn_31 : decode cX6_gapIn 31 = .ok (.ifCond .ne 5, 3) := by decide +kernel
theorem dX6_gapIn_34 : decode cX6_gapIn 34 = .ok (.iload_n 2, 1) := by decide +kernel
theorem dX6_gapIn_35 : decode cX6_gapIn 35 = .ok (.ireturn, 1) := by decide +kernel
theorem dX6_gapIn_36 : decode cX6_gapIn 36 = .ok (.aload_n 0, 1) := by decide +kernel
theorem dX6_gapIn_37 : decode cX6_gapIn 37 = .ok (.getfield 23, 3) := by decide +kernel
theorem dX6_gapIn_40 : decode cX6_gapIn 40 = .ok (.iconst 1, 1) := by decide +kernel
theorem dX6_gapIn_41 : decode cX6_gapIn 41 = .ok (.invokevirtual 224, 3) := by decide +kernel
theorem dX6_gapIn_44 : decode cX6_gapIn 44 = .ok (.pop, 1) := by decide +kernel
theorem dX6_gapIn_45 : decode cX6_gapIn 45 = .ok (.iinc 2 1, 3) := by decide +kernel
theorem dX6_gapIn_48 : decode cX6_gapIn 48 = .ok (.goto (-31), 3) := by decide +kernel
theorem dX6_gapIn_51 : decode cX6_gapIn 51 = .ok (.iconst (-1), 1) := by decide +kernel
theorem dX6_gapIn_52 : decode cX6_gapIn 52 = .ok (.ireturn, 1) := by decide +kernel
set_option maxRecDepth 20000 in
theorem ggX6_mover_X6_requireLength : GoodIn wsX6_mover wsX6_requireLength := goodIn_ca (goodIn_r _ [5, 6, 7, 8, 9, 4, 10] rfl (by decide +kernel)) (goodIn_sub (fun _ h => List.mem_cons_of_mem _ (List.mem_append_right _ h)) (by decide +kernel))
set_option maxRecDepth 20000 in
theorem gX6_mover_X6_requireLength : GoodIn wsX6_mover (va_wsS RX6 187 yX6_requireLength wsX6_requireLength) := goodIn_app (goodIn_r _ [2, 3, 4] rfl (by decide +kernel)) ggX6_mover_X6_requireLength
set_option maxRecDepth 20000 in
theorem ggX6_mover_X6_requireZeroOrOne : GoodIn wsX6_mover wsX6_requireZeroOrOne := goodIn_ca (goodIn_r _ [13, 6, 7] rfl (by decide +kernel)) (goodIn_sub (fun _ h => List.mem_cons_of_mem _ (List.mem_append_right _ h)) (by decide +kernel))
set_option maxRecDepth 20000 in
theorem gX6_mover_X6_requireZeroOrOne : GoodIn wsX6_mover (va_wsS RX6 162 yX6_requireZeroOrOne wsX6_requireZeroOrOne) := goodIn_app (goodIn_r _ [11, 12, 4] rfl (by decide +kernel)) ggX6_mover_X6_requireZeroOrOne
set_option maxRecDepth 20000 in
theorem ggX6_mover_X4_carToShift : GoodIn wsX6_mover wsX4_carToShift := goodIn_r _ [17, 18, 19, 20, 21, 22, 15, 23, 24, 25, 26, 27, 28, 29, 30, 31, 32, 33, 34, 35, 36, 37, 38, 4, 39, 40, 41, 42, 43, 44, 45, 46, 47, 48, 49, 50, 51, 52, 53, 54, 55, 56, 65, 66, 67, 68, 69, 70, 71, 72, 73, 74, 75, 76, 77, 78] rfl (by decide +kernel)
set_option maxRecDepth 20000 in
theorem gX6_mover_X4_carToShift_n262 : GoodIn wsX6_mover (wsX4_carToShift) := ggX6_mover_X4_carToShift
set_option maxRecDepth 20000 in
theorem ggX6_mover_X4_placeToShiftTo : GoodIn wsX6_mover wsX4_placeToShiftTo := goodIn_r _ [59, 44, 19, 40, 41, 42, 15, 43, 38, 4, 39, 45, 46, 47, 48, 49, 50, 51, 52, 53, 54, 55, 56, 65, 66, 67, 68, 69, 70, 71, 72, 73, 74, 75, 76, 77, 78] rfl (by decide +kernel)
set_option maxRecDepth 20000 in
theorem gX6_mover_X4_placeToShiftTo_n265 : GoodIn wsX6_mover (wsX4_placeToShiftTo) := ggX6_mover_X4_placeToShiftTo
theorem dX6_mover_0 : decode cX6_mover 0 = .ok (.iload_n 1, 1) := by decide +kernel
theorem dX6_mover_1 : decode cX6_mover 1 = .ok (.invokestatic 187, 3) := by decide +kernel
theorem dX6_mover_4 : decode cX6_mover 4 = .ok (.iload_n 2, 1) := by decide +kernel
theorem dX6_mover_5 : decode cX6_mover 5 = .ok (.invokestatic 162, 3) := by decide +kernel
theorem dX6_mover_8 : decode cX6_mover 8 = .ok (.aload_n 0, 1) := by decide +kernel
theorem dX6_mover_9 : decode cX6_mover 9 = .ok (.getfield 19, 3) := by decide +kernel
theorem dX6_mover_12 : decode cX6_mover 12 = .ok (.iload_n 1, 1) := by decide +kernel
theorem dX6_mover_13 : decode cX6_mover 13 = .ok (.invokevirtual 262, 3) := by decide +kernel
theorem dX6_mover_16 : decode cX6_mover 16 = .ok (.istore_n 3, 1) := by decide +kernel
theorem dX6_mover_17 : decode cX6_mover 17 = .ok (.iload_n 2, 1) := by decide +kernel
theorem dX6_mover_18 : decode cX6_mover 18 = .ok (.ifCond .eq 8, 3) := by decide +kernel
theorem dX6_mover_21 : decode cX6_mover 21 = .ok (.iload_n 3, 1) := by decide +kernel
theorem dX6_mover_22 : decode cX6_mover 22 = .ok (.iconst (-1), 1) := by decide +kernel
theorem dX6_mover_23 : decode cX6_mover 23 = .ok (.if_icmp .ne 7, 3) := by decide +kernel
theorem dX6_mover_26 : decode cX6_mover 26 = .ok (.iload_n 3, 1) := by decide +kernel
theorem dX6_mover_27 : decode cX6_mover 27 = .ok (.goto 12, 3) := by decide +kernel
theorem dX6_mover_30 : decode cX6_mover 30 = .ok (.aload_n 0, 1) := by decide +kernel
theorem dX6_mover_31 : decode cX6_mover 31 = .ok (.getfield 19, 3) := by decide +kernel
theorem dX6_mover_34 : decode cX6_mover 34 = .ok (.iload_n 3, 1) := by decide +kernel
theorem dX6_mover_35 : decode cX6_mover 35 = .ok (.iload_n 1, 1) := by decide +kernel
theorem dX6_mover_36 : decode cX6_mover 36 = .ok (.invokevirtual 265, 3) := by decide +kernel
theorem dX6_mover_39 : decode cX6_mover 39 = .ok (.ireturn, 1) := by decide +kernel
set_option maxRecDepth 20000 in
theorem ggX6_jam_X6_requireLength : GoodIn wsX6_jam wsX6_requireLength := goodIn_ca (goodIn_r _ [6, 7, 8, 9, 10, 5, 11] rfl (by decide +kernel)) (goodIn_sub (fun _ h => List.mem_cons_of_mem _ (List.mem_append_right _ h)) (by decide +kernel))
set_option maxRecDepth 20000 in
theorem gX6_jam_X6_requireLength : GoodIn wsX6_jam (va_wsS RX6 187 yX6_requireLength wsX6_requireLength) := goodIn_app (goodIn_r _ [3, 4, 5] rfl (by decide +kernel)) ggX6_jam_X6_requireLength
set_option maxRecDepth 20000 in
theorem ggX6_jam_X4_copyFrom : GoodIn wsX6_jam wsX4_copyFrom := goodIn_r _ [15, 16, 17, 18, 19, 20, 21, 22, 23, 24, 25, 26, 27, 28, 29, 30, 5, 31, 32, 33, 34, 35, 78, 79, 80, 81, 82, 83, 84, 85, 86, 87, 88, 89, 90, 91] rfl (by decide +kernel)
set_option maxRecDepth 20000 in
theorem gX6_jam_X4_copyFrom_n253 : GoodIn wsX6_jam (wsX4_copyFrom) := ggX6_jam_X4_copyFrom
set_option maxRecDepth 20000 in
theorem ggX6_jam_X4_fillWith : GoodIn wsX6_jam wsX4_fillWith := goodIn_r _ [38, 39, 40, 41, 13, 42, 27, 26, 43, 5, 44, 45, 46, 47, 48, 49, 50, 17, 28, 51, 52, 53, 54, 55, 56, 57, 58, 59, 60, 61, 62, 63, 64, 65, 66, 16, 67, 68, 69, 70, 71, 72, 78, 79, 80, 81, 82, 83, 84, 85, 86, 87, 88, 89, 90, 91] rfl (by decide +kernel)
set_option maxRecDepth 20000 in
theorem gX6_jam_X4_fillWith_n259 : GoodIn wsX6_jam (wsX4_fillWith) := ggX6_jam_X4_fillWith
theorem dX6_jam_0 : decode cX6_jam 0 = .ok (.iload_n 1, 1) := by decide +kernel
theorem dX6_jam_1 : decode cX6_jam 1 = .ok (.invokestatic 187, 3) := by decide +kernel
theorem dX6_jam_4 : decode cX6_jam 4 = .ok (.aload_n 0, 1) := by decide +kernel
theorem dX6_jam_5 : decode cX6_jam 5 = .ok (.getfield 23, 3) := by decide +kernel
theorem dX6_jam_8 : decode cX6_jam 8 = .ok (.aload_n 0, 1) := by decide +kernel
theorem dX6_jam_9 : decode cX6_jam 9 = .ok (.getfield 19, 3) := by decide +kernel
theorem dX6_jam_12 : decode cX6_jam 12 = .ok (.invokevirtual 253, 3) := by decide +kernel
theorem dX6_jam_15 : decode cX6_jam 15 = .ok (.aload_n 0, 1) := by decide +kernel
theorem dX6_jam_16 : decode cX6_jam 16 = .ok (.getfield 23, 3) := by decide +kernel
theorem dX6_jam_19 : decode cX6_jam 19 = .ok (.iconst 2, 1) := by decide +kernel
theorem dX6_jam_20 : decode cX6_jam 20 = .ok (.putfield 256, 3) := by decide +kernel
theorem dX6_jam_23 : decode cX6_jam 23 = .ok (.aload_n 0, 1) := by decide +kernel
theorem dX6_jam_24 : decode cX6_jam 24 = .ok (.getfield 23, 3) := by decide +kernel
theorem dX6_jam_27 : decode cX6_jam 27 = .ok (.lload_n 2, 1) := by decide +kernel
theorem dX6_jam_28 : decode cX6_jam 28 = .ok (.putfield 268, 3) := by decide +kernel
theorem dX6_jam_31 : decode cX6_jam 31 = .ok (.aload_n 0, 1) := by decide +kernel
theorem dX6_jam_32 : decode cX6_jam 32 = .ok (.getfield 23, 3) := by decide +kernel
theorem dX6_jam_35 : decode cX6_jam 35 = .ok (.iload_n 1, 1) := by decide +kernel
theorem dX6_jam_36 : decode cX6_jam 36 = .ok (.invokevirtual 259, 3) := by decide +kernel
theorem dX6_jam_39 : decode cX6_jam 39 = .ok (.ireturn, 1) := by decide +kernel
set_option maxRecDepth 20000 in
theorem ggX6_runScript_X4_copyFrom : GoodIn wsX6_runScript wsX4_copyFrom := goodIn_r _ [9, 10, 11, 12, 13, 14, 15, 16, 17, 18, 19, 20, 21, 22, 23, 24, 25, 26, 27, 28, 29, 30, 170, 171, 172, 173, 174, 175, 176, 177, 178, 179, 180, 181, 182, 183] rfl (by decide +kernel)
set_option maxRecDepth 20000 in
theorem gX6_runScript_X4_copyFrom_n253 : GoodIn wsX6_runScript (wsX4_copyFrom) := ggX6_runScript_X4_copyFrom
set_option maxRecDepth 20000 in
theorem ggX6_runScript_X2_succeeds : GoodIn wsX6_runScript wsX2_succeeds := goodIn_r _ [33, 34, 35, 36, 32, 37, 38, 7, 39, 40, 18, 12, 13, 14, 15, 16, 17, 41, 25, 42, 43, 44, 45, 46, 47, 48, 49, 50, 51, 52, 53, 54, 55, 56, 57, 58, 59, 60, 21, 20, 61, 62, 63, 64, 65, 66, 67, 68, 11, 22, 69, 70, 71, 72, 73, 74, 75, 76, 77, 78, 79, 80, 81, 82, 83, 84, 10, 85, 86, 87, 88, 89, 90, 91, 92, 93, 94, 95, 96, 97, 98, 99, 100, 101, 102, 103, 104, 105, 106, 107, 108, 109, 110, 111, 112, 113, 114, 115, 19, 116, 117, 118, 119, 120, 121, 122, 123, 124, 125, 126, 127, 128, 129, 130, 131, 132, 133, 134, 23, 135, 136, 137, 138, 139, 140, 141, 142, 143, 144, 145, 146, 147, 148, 149, 150, 151, 152, 153, 154, 155, 156, 157, 158, 159, 160, 161, 162, 163, 164, 170, 171, 172, 173, 174, 175, 176, 177, 178, 179, 180, 181, 182, 183] rfl (by decide +kernel)
set_option maxRecDepth 20000 in
theorem gX6_runScript_X2_succeeds_n278 : GoodIn wsX6_runScript (wsX2_succeeds) := ggX6_runScript_X2_succeeds
theorem dX6_runScript_0 : decode cX6_runScript 0 = .ok (.iload_n 1, 1) := by decide +kernel
theorem dX6_runScript_1 : decode cX6_runScript 1 = .ok (.iconst 1, 1) := by decide +kernel
theorem dX6_runScript_2 : decode cX6_runScript 2 = .ok (.if_icmp .lt 8, 3) := by decide +kernel
theorem dX6_runScript_5 : decode cX6_runScript 5 = .ok (.iload_n 1, 1) := by decide +kernel
theorem dX6_runScript_6 : decode cX6_runScript 6 = .ok (.iconst 3, 1) := by decide +kernel
theorem dX6_runScript_7 : decode cX6_runScript 7 = .ok (.if_icmp .le 14, 3) := by decide +kernel
theorem dX6_runScript_10 : decode cX6_runScript 10 = .ok (.new 40, 3) := by decide +kernel
theorem dX6_runScript_13 : decode cX6_runScript 13 = .ok (.dup, 1) := by decide +kernel
theorem dX6_runScript_14 : decode cX6_runScript 14 = .ok (.ldc_w 272, 3) := by decide +kernel
theorem dX6_runScript_17 : decode cX6_runScript 17 = .ok (.invokespecial 44, 3) := by decide +kernel
theorem dX6_runScript_20 : decode cX6_runScript 20 = .ok (.athrow, 1) := by decide +kernel
theorem dX6_runScript_21 : decode cX6_runScript 21 = .ok (.lconst 1, 1) := by decide +kernel
theorem dX6_runScript_22 : decode cX6_runScript 22 = .ok (.lstore 4, 2) := by decide +kernel
theorem dX6_runScript_24 : decode cX6_runScript 24 = .ok (.iconst 1, 1) := by decide +kernel
theorem dX6_runScript_25 : decode cX6_runScript 25 = .ok (.istore 6, 2) := by decide +kernel
theorem dX6_runScript_27 : decode cX6_runScript 27 = .ok (.iload 6, 2) := by decide +kernel
theorem dX6_runScript_29 : decode cX6_runScript 29 = .ok (.iload_n 1, 1) := by decide +kernel
theorem dX6_runScript_30 : decode cX6_runScript 30 = .ok (.if_icmp .ge 17, 3) := by decide +kernel
theorem dX6_runScript_33 : decode cX6_runScript 33 = .ok (.lload 4, 2) := by decide +kernel
theorem dX6_runScript_35 : decode cX6_runScript 35 = .ok (.ldc2_w 274, 3) := by decide +kernel
theorem dX6_runScript_38 : decode cX6_runScript 38 = .ok (.lmul, 1) := by decide +kernel
theorem dX6_runScript_39 : decode cX6_runScript 39 = .ok (.lstore 4, 2) := by decide +kernel
theorem dX6_runScript_41 : decode cX6_runScript 41 = .ok (.iinc 6 1, 3) := by decide +kernel
theorem dX6_runScript_44 : decode cX6_runScript 44 = .ok (.goto (-17), 3) := by decide +kernel
theorem dX6_runScript_47 : decode cX6_runScript 47 = .ok (.lload_n 2, 1) := by decide +kernel
theorem dX6_runScript_48 : decode cX6_runScript 48 = .ok (.lconst 0, 1) := by decide +kernel
theorem dX6_runScript_49 : decode cX6_runScript 49 = .ok (.lcmp, 1) := by decide +kernel
theorem dX6_runScript_50 : decode cX6_runScript 50 = .ok (.ifCond .lt 14, 3) := by decide +kernel
theorem dX6_runScript_53 : decode cX6_runScript 53 = .ok (.lload_n 2, 1) := by decide +kernel
theorem dX6_runScript_54 : decode cX6_runScript 54 = .ok (.ldc2_w 274, 3) := by decide +kernel
theorem dX6_runScript_57 : decode cX6_runScript 57 = .ok (.ldiv, 1) := by decide +kernel
theorem dX6_runScript_58 : decode cX6_runScript 58 = .ok (.lload 4, 2) := by decide +kernel
theorem dX6_runScript_60 : decode cX6_runScript 60 = .ok (.lcmp, 1) := by decide +kernel
theorem dX6_runScript_61 : decode cX6_runScript 61 = .ok (.ifCond .lt 14, 3) := by decide +kernel
theorem dX6_runScript_64 : decode cX6_runScript 64 = .ok (.new 40, 3) := by decide +kernel
theorem dX6_runScript_67 : decode cX6_runScript 67 = .ok (.dup, 1) := by decide +kernel
theorem dX6_runScript_68 : decode cX6_runScript 68 = .ok (.ldc_w 276, 3) := by decide +kernel
theorem dX6_runScript_71 : decode cX6_runScript 71 = .ok (.invokespecial 44, 3) := by decide +kernel
theorem dX6_runScript_74 : decode cX6_runScript 74 = .ok (.athrow, 1) := by decide +kernel
theorem dX6_runScript_75 : decode cX6_runScript 75 = .ok (.aload_n 0, 1) := by decide +kernel
theorem dX6_runScript_76 : decode cX6_runScript 76 = .ok (.getfield 23, 3) := by decide +kernel
theorem dX6_runScript_79 : decode cX6_runScript 79 = .ok (.aload_n 0, 1) := by decide +kernel
theorem dX6_runScript_80 : decode cX6_runScript 80 = .ok (.getfield 19, 3) := by decide +kernel
theorem dX6_runScript_83 : decode cX6_runScript 83 = .ok (.invokevirtual 253, 3) := by decide +kernel
theorem dX6_runScript_86 : decode cX6_runScript 86 = .ok (.iconst 0, 1) := by decide +kernel
theorem dX6_runScript_87 : decode cX6_runScript 87 = .ok (.istore 6, 2) := by decide +kernel
theorem dX6_runScript_89 : decode cX6_runScript 89 = .ok (.iload 6, 2) := by decide +kernel
theorem dX6_runScript_91 : decode cX6_runScript 91 = .ok (.iload_n 1, 1) := by decide +kernel
theorem dX6_runScript_92 : decode cX6_runScript 92 = .ok (.if_icmp .ge 46, 3) := by decide +kernel
theorem dX6_runScript_95 : decode cX6_runScript 95 = .ok (.lload 4, 2) := by decide +kernel
theorem dX6_runScript_97 : decode cX6_runScript 97 = .ok (.lconst 0, 1) := by decide +kernel
theorem dX6_runScript_98 : decode cX6_runScript 98 = .ok (.lcmp, 1) := by decide +kernel
theorem dX6_runScript_99 : decode cX6_runScript 99 = .ok (.ifCond .le 39, 3) := by decide +kernel
theorem dX6_runScript_102 : decode cX6_runScript 102 = .ok (.lload_n 2, 1) := by decide +kernel
theorem dX6_runScript_103 : decode cX6_runScript 103 = .ok (.lload 4, 2) := by decide +kernel
theorem dX6_runScript_105 : decode cX6_runScript 105 = .ok (.ldiv, 1) := by decide +kernel
theorem dX6_runScript_106 : decode cX6_runScript 106 = .ok (.ldc2_w 274, 3) := by decide +kernel
theorem dX6_runScript_109 : decode cX6_runScript 109 = .ok (.lrem, 1) := by decide +kernel
theorem dX6_runScript_110 : decode cX6_runScript 110 = .ok (.l2i, 1) := by decide +kernel
theorem dX6_runScript_111 : decode cX6_runScript 111 = .ok (.aload_n 0, 1) := by decide +kernel
theorem dX6_runScript_112 : decode cX6_runScript 112 = .ok (.getfield 23, 3) := by decide +kernel
theorem dX6_runScript_115 : decode cX6_runScript 115 = .ok (.invokestatic 278, 3) := by decide +kernel
theorem dX6_runScript_118 : decode cX6_runScript 118 = .ok (.ifCond .ne 6, 3) := by decide +kernel
theorem dX6_runScript_121 : decode cX6_runScript 121 = .ok (.iload 6, 2) := by decide +kernel
theorem dX6_runScript_123 : decode cX6_runScript 123 = .ok (.ireturn, 1) := by decide +kernel
theorem dX6_runScript_124 : decode cX6_runScript 124 = .ok (.lload 4, 2) := by decide +kernel
theorem dX6_runScript_126 : decode cX6_runScript 126 = .ok (.ldc2_w 274, 3) := by decide +kernel
theorem dX6_runScript_129 : decode cX6_runScript 129 = .ok (.ldiv, 1) := by decide +kernel
theorem dX6_runScript_130 : decode cX6_runScript 130 = .ok (.lstore 4, 2) := by decide +kernel
theorem dX6_runScript_132 : decode cX6_runScript 132 = .ok (.iinc 6 1, 3) := by decide +kernel
theorem dX6_runScript_135 : decode cX6_runScript 135 = .ok (.goto (-46), 3) := by decide +kernel
theorem dX6_runScript_138 : decode cX6_runScript 138 = .ok (.iconst (-1), 1) := by decide +kernel
theorem dX6_runScript_139 : decode cX6_runScript 139 = .ok (.ireturn, 1) := by decide +kernel
set_option maxRecDepth 20000 in
theorem ggX6_simulate_X4_copyFrom : GoodIn wsX6_simulate wsX4_copyFrom := goodIn_r _ [8, 9, 10, 11, 12, 13, 14, 15, 16, 17, 18, 19, 20, 21, 22, 23, 24, 25, 26, 27, 28, 29, 155, 156, 157, 158, 159, 160, 161, 162, 163, 164, 165, 166, 167, 168] rfl (by decide +kernel)
set_option maxRecDepth 20000 in
theorem gX6_simulate_X4_copyFrom_n253 : GoodIn wsX6_simulate (wsX4_copyFrom) := ggX6_simulate_X4_copyFrom
set_option maxRecDepth 20000 in
theorem ggX6_simulate_X6_nextChance : GoodIn wsX6_simulate wsX6_nextChance := goodIn_r _ [32, 33, 34] rfl (by decide +kernel)
set_option maxRecDepth 20000 in
theorem gX6_simulate_X6_nextChance : GoodIn wsX6_simulate (va_wsS RX6 286 yX6_nextChance wsX6_nextChance) := goodIn_app (goodIn_r _ [30, 31, 24] rfl (by decide +kernel)) ggX6_simulate_X6_nextChance
set_option maxRecDepth 20000 in
theorem ggX6_simulate_X3_doTurn : GoodIn wsX6_simulate wsX3_doTurn := goodIn_r _ [37, 38, 6, 39, 40, 17, 11, 12, 13, 14, 15, 16, 41, 24, 42, 43, 44, 45, 46, 47, 48, 49, 50, 51, 52, 53, 54, 55, 56, 57, 58, 59, 60, 20, 19, 31, 32, 33, 34, 61, 62, 63, 64, 10, 21, 65, 66, 67, 68, 69, 70, 71, 72, 73, 74, 75, 76, 77, 78, 79, 80, 9, 81, 82, 83, 84, 85, 86, 87, 88, 89, 90, 91, 92, 93, 94, 95, 96, 97, 98, 99, 100, 101, 102, 103, 104, 105, 106, 107, 108, 109, 110, 111, 112, 113, 114, 36, 115, 116, 117, 118, 22, 119, 120, 121, 122, 123, 124, 125, 126, 127, 18, 128, 129, 130, 131, 132, 133, 134, 135, 136, 137, 138, 139, 140, 141, 142, 143, 144, 145, 146, 155, 156, 157, 158, 159, 160, 161, 162, 163, 164, 165, 166, 167, 168] rfl (by decide +kernel)
set_option maxRecDepth 20000 in
theorem gX6_simulate_X3_doTurn_n290 : GoodIn wsX6_simulate (wsX3_doTurn) := ggX6_simulate_X3_doTurn
set_option maxRecDepth 20000 in
theorem ggX6_simulate_X4_carsInState : GoodIn wsX6_simulate wsX4_carsInState := goodIn_r _ [149, 17, 13, 55, 24, 56, 155, 156, 157, 158, 159, 160, 161, 162, 163, 164, 165, 166, 167, 168] rfl (by decide +kernel)
set_option maxRecDepth 20000 in
theorem gX6_simulate_X4_carsInState_n93 : GoodIn wsX6_simulate (wsX4_carsInState) := ggX6_simulate_X4_carsInState
set_option maxRecDepth 20000 in
theorem ggX6_simulate_X4_cellsWith : GoodIn wsX6_simulate wsX4_cellsWith := goodIn_r _ [112, 9, 155, 156, 157, 158, 159, 160, 161, 162, 163, 164, 165, 166, 167, 168] rfl (by decide +kernel)
set_option maxRecDepth 20000 in
theorem gX6_simulate_X4_cellsWith_n105 : GoodIn wsX6_simulate (wsX4_cellsWith) := ggX6_simulate_X4_cellsWith
theorem dX6_simulate_0 : decode cX6_simulate 0 = .ok (.iload_n 3, 1) := by decide +kernel
theorem dX6_simulate_1 : decode cX6_simulate 1 = .ok (.iconst 1, 1) := by decide +kernel
theorem dX6_simulate_2 : decode cX6_simulate 2 = .ok (.if_icmp .lt 9, 3) := by decide +kernel
theorem dX6_simulate_5 : decode cX6_simulate 5 = .ok (.iload_n 3, 1) := by decide +kernel
theorem dX6_simulate_6 : decode cX6_simulate 6 = .ok (.bipush 60, 2) := by decide +kernel
theorem dX6_simulate_8 : decode cX6_simulate 8 = .ok (.if_icmp .le 14, 3) := by decide +kernel
theorem dX6_simulate_11 : decode cX6_simulate 11 = .ok (.new 40, 3) := by decide +kernel
theorem dX6_simulate_14 : decode cX6_simulate 14 = .ok (.dup, 1) := by decide +kernel
theorem dX6_simulate_15 : decode cX6_simulate 15 = .ok (.ldc_w 284, 3) := by decide +kernel
theorem dX6_simulate_18 : decode cX6_simulate 18 = .ok (.invokespecial 44, 3) := by decide +kernel
theorem dX6_simulate_21 : decode cX6_simulate 21 = .ok (.athrow, 1) := by decide +kernel
theorem dX6_simulate_22 : decode cX6_simulate 22 = .ok (.aload_n 0, 1) := by decide +kernel
theorem dX6_simulate_23 : decode cX6_simulate 23 = .ok (.getfield 23, 3) := by decide +kernel
theorem dX6_simulate_26 : decode cX6_simulate 26 = .ok (.aload_n 0, 1) := by decide +kernel
theorem dX6_simulate_27 : decode cX6_simulate 27 = .ok (.getfield 19, 3) := by decide +kernel
theorem dX6_simulate_30 : decode cX6_simulate 30 = .ok (.invokevirtual 253, 3) := by decide +kernel
theorem dX6_simulate_33 : decode cX6_simulate 33 = .ok (.lload_n 1, 1) := by decide +kernel
theorem dX6_simulate_34 : decode cX6_simulate 34 = .ok (.lstore 4, 2) := by decide +kernel
theorem dX6_simulate_36 : decode cX6_simulate 36 = .ok (.iconst 0, 1) := by decide +kernel
theorem dX6_simulate_37 : decode cX6_simulate 37 = .ok (.istore 6, 2) := by decide +kernel
theorem dX6_simulate_39 : decode cX6_simulate 39 = .ok (.iload 6, 2) := by decide +kernel
theorem dX6_simulate_41 : decode cX6_simulate 41 = .ok (.iload_n 3, 1) := by decide +kernel
theorem dX6_simulate_42 : decode cX6_simulate 42 = .ok (.if_icmp .ge 29, 3) := by decide +kernel
theorem dX6_simulate_45 : decode cX6_simulate 45 = .ok (.lload 4, 2) := by decide +kernel
theorem dX6_simulate_47 : decode cX6_simulate 47 = .ok (.invokestatic 286, 3) := by decide +kernel
theorem dX6_simulate_50 : decode cX6_simulate 50 = .ok (.lstore 4, 2) := by decide +kernel
theorem dX6_simulate_52 : decode cX6_simulate 52 = .ok (.lload 4, 2) := by decide +kernel
theorem dX6_simulate_54 : decode cX6_simulate 54 = .ok (.bipush 33, 2) := by decide +kernel
theorem dX6_simulate_56 : decode cX6_simulate 56 = .ok (.lushr, 1) := by decide +kernel
theorem dX6_simulate_57 : decode cX6_simulate 57 = .ok (.l2i, 1) := by decide +kernel
theorem dX6_simulate_58 : decode cX6_simulate 58 = .ok (.aload_n 0, 1) := by decide +kernel
theorem dX6_simulate_59 : decode cX6_simulate 59 = .ok (.getfield 23, 3) := by decide +kernel
theorem dX6_simulate_62 : decode cX6_simulate 62 = .ok (.invokestatic 290, 3) := by decide +kernel
theorem dX6_simulate_65 : decode cX6_simulate 65 = .ok (.iinc 6 1, 3) := by decide +kernel
theorem dX6_simulate_68 : decode cX6_simulate 68 = .ok (.goto (-29), 3) := by decide +kernel
theorem dX6_simulate_71 : decode cX6_simulate 71 = .ok (.aload_n 0, 1) := by decide +kernel
theorem dX6_simulate_72 : decode cX6_simulate 72 = .ok (.getfield 23, 3) := by decide +kernel
theorem dX6_simulate_75 : decode cX6_simulate 75 = .ok (.iconst 3, 1) := by decide +kernel
theorem dX6_simulate_76 : decode cX6_simulate 76 = .ok (.invokevirtual 93, 3) := by decide +kernel
theorem dX6_simulate_79 : decode cX6_simulate 79 = .ok (.aload_n 0, 1) := by decide +kernel
theorem dX6_simulate_80 : decode cX6_simulate 80 = .ok (.getfield 19, 3) := by decide +kernel
theorem dX6_simulate_83 : decode cX6_simulate 83 = .ok (.iconst 3, 1) := by decide +kernel
theorem dX6_simulate_84 : decode cX6_simulate 84 = .ok (.invokevirtual 93, 3) := by decide +kernel
theorem dX6_simulate_87 : decode cX6_simulate 87 = .ok (.isub, 1) := by decide +kernel
theorem dX6_simulate_88 : decode cX6_simulate 88 = .ok (.istore 6, 2) := by decide +kernel
theorem dX6_simulate_90 : decode cX6_simulate 90 = .ok (.sipush 10000, 3) := by decide +kernel
theorem dX6_simulate_93 : decode cX6_simulate 93 = .ok (.aload_n 0, 1) := by decide +kernel
theorem dX6_simulate_94 : decode cX6_simulate 94 = .ok (.getfield 23, 3) := by decide +kernel
theorem dX6_simulate_97 : decode cX6_simulate 97 = .ok (.iconst 0, 1) := by decide +kernel
theorem dX6_simulate_98 : decode cX6_simulate 98 = .ok (.invokevirtual 93, 3) := by decide +kernel
theorem dX6_simulate_101 : decode cX6_simulate 101 = .ok (.imul, 1) := by decide +kernel
theorem dX6_simulate_102 : decode cX6_simulate 102 = .ok (.bipush 100, 2) := by decide +kernel
theorem dX6_simulate_104 : decode cX6_simulate 104 = .ok (.iload 6, 2) := by decide +kernel
theorem dX6_simulate_106 : decode cX6_simulate 106 = .ok (.imul, 1) := by decide +kernel
theorem dX6_simulate_107 : decode cX6_simulate 107 = .ok (.iadd, 1) := by decide +kernel
theorem dX6_simulate_108 : decode cX6_simulate 108 = .ok (.aload_n 0, 1) := by decide +kernel
theorem dX6_simulate_109 : decode cX6_simulate 109 = .ok (.getfield 23, 3) := by decide +kernel
theorem dX6_simulate_112 : decode cX6_simulate 112 = .ok (.iconst (-1), 1) := by decide +kernel
theorem dX6_simulate_113 : decode cX6_simulate 113 = .ok (.invokevirtual 105, 3) := by decide +kernel
theorem dX6_simulate_116 : decode cX6_simulate 116 = .ok (.iadd, 1) := by decide +kernel
theorem dX6_simulate_117 : decode cX6_simulate 117 = .ok (.ireturn, 1) := by decide +kernel
set_option maxRecDepth 20000 in
theorem ggX6_save_X6_requireSlot : GoodIn wsX6_save wsX6_requireSlot := goodIn_ca (goodIn_r _ [6, 7, 8] rfl (by decide +kernel)) (goodIn_sub (fun _ h => List.mem_cons_of_mem _ (List.mem_append_right _ h)) (by decide +kernel))
set_option maxRecDepth 20000 in
theorem gX6_save_X6_requireSlot : GoodIn wsX6_save (va_wsS RX6 296 yX6_requireSlot wsX6_requireSlot) := goodIn_app (goodIn_r _ [3, 4, 5] rfl (by decide +kernel)) ggX6_save_X6_requireSlot
set_option maxRecDepth 20000 in
theorem ggX6_save_X1_keep : GoodIn wsX6_save wsX1_keep := goodIn_r _ [12, 13, 14, 15, 5, 16, 17, 18, 19, 20, 21, 22, 23, 24, 25, 26, 27, 28, 29, 30, 31, 32, 33, 34, 35, 36, 37, 38, 39, 40, 60, 61, 46, 47, 48, 49, 50, 51, 52, 53, 54, 55, 56, 57, 58, 59] rfl (by decide +kernel)
set_option maxRecDepth 20000 in
theorem gX6_save_X1_keep_n299 : GoodIn wsX6_save (wsX1_keep) := ggX6_save_X1_keep
theorem dX6_save_0 : decode cX6_save 0 = .ok (.iload_n 1, 1) := by decide +kernel
theorem dX6_save_1 : decode cX6_save 1 = .ok (.invokestatic 296, 3) := by decide +kernel
theorem dX6_save_4 : decode cX6_save 4 = .ok (.aload_n 0, 1) := by decide +kernel
theorem dX6_save_5 : decode cX6_save 5 = .ok (.getfield 36, 3) := by decide +kernel
theorem dX6_save_8 : decode cX6_save 8 = .ok (.iload_n 1, 1) := by decide +kernel
theorem dX6_save_9 : decode cX6_save 9 = .ok (.aload_n 0, 1) := by decide +kernel
theorem dX6_save_10 : decode cX6_save 10 = .ok (.getfield 19, 3) := by decide +kernel
theorem dX6_save_13 : decode cX6_save 13 = .ok (.invokevirtual 299, 3) := by decide +kernel
theorem dX6_save_16 : decode cX6_save 16 = .ok (.aload_n 0, 1) := by decide +kernel
theorem dX6_save_17 : decode cX6_save 17 = .ok (.getfield 19, 3) := by decide +kernel
theorem dX6_save_20 : decode cX6_save 20 = .ok (.getfield 96, 3) := by decide +kernel
theorem dX6_save_23 : decode cX6_save 23 = .ok (.ireturn, 1) := by decide +kernel
set_option maxRecDepth 20000 in
theorem ggX6_restore_X6_requireSlot : GoodIn wsX6_restore wsX6_requireSlot := goodIn_ca (goodIn_r _ [9, 10, 11] rfl (by decide +kernel)) (goodIn_sub (fun _ h => List.mem_cons_of_mem _ (List.mem_append_right _ h)) (by decide +kernel))
set_option maxRecDepth 20000 in
theorem gX6_restore_X6_requireSlot : GoodIn wsX6_restore (va_wsS RX6 296 yX6_requireSlot wsX6_requireSlot) := goodIn_app (goodIn_r _ [6, 7, 8] rfl (by decide +kernel)) ggX6_restore_X6_requireSlot
set_option maxRecDepth 20000 in
theorem ggX6_restore_X1_isFilled : GoodIn wsX6_restore wsX1_isFilled := goodIn_r _ [15, 16, 72, 73] rfl (by decide +kernel)
set_option maxRecDepth 20000 in
theorem gX6_restore_X1_isFilled_n302 : GoodIn wsX6_restore (wsX1_isFilled) := ggX6_restore_X1_isFilled
set_option maxRecDepth 20000 in
theorem ggX6_restore_X1_giveBack : GoodIn wsX6_restore wsX1_giveBack := goodIn_r _ [19, 20, 21, 12, 14, 13, 15, 16, 22, 8, 23, 24, 25, 26, 27, 28, 29, 30, 31, 32, 33, 34, 35, 36, 37, 38, 39, 40, 41, 42, 43, 44, 45, 46, 47, 72, 73, 58, 59, 60, 61, 62, 63, 64, 65, 66, 67, 68, 69, 70, 71] rfl (by decide +kernel)
set_option maxRecDepth 20000 in
theorem gX6_restore_X1_giveBack_n307 : GoodIn wsX6_restore (wsX1_giveBack) := ggX6_restore_X1_giveBack
set_option maxRecDepth 20000 in
theorem ggX6_restore_X0_forget : GoodIn wsX6_restore wsX0_forget := goodIn_r _ [51, 52, 74, 75, 76] rfl (by decide +kernel)
set_option maxRecDepth 20000 in
theorem gX6_restore_X0_forget_n72 : GoodIn wsX6_restore (wsX0_forget) := ggX6_restore_X0_forget
theorem dX6_restore_0 : decode cX6_restore 0 = .ok (.iload_n 1, 1) := by decide +kernel
theorem dX6_restore_1 : decode cX6_restore 1 = .ok (.invokestatic 296, 3) := by decide +kernel
theorem dX6_restore_4 : decode cX6_restore 4 = .ok (.aload_n 0, 1) := by decide +kernel
theorem dX6_restore_5 : decode cX6_restore 5 = .ok (.getfield 36, 3) := by decide +kernel
theorem dX6_restore_8 : decode cX6_restore 8 = .ok (.iload_n 1, 1) := by decide +kernel
theorem dX6_restore_9 : decode cX6_restore 9 = .ok (.invokevirtual 302, 3) := by decide +kernel
theorem dX6_restore_12 : decode cX6_restore 12 = .ok (.ifCond .ne 14, 3) := by decide +kernel
theorem dX6_restore_15 : decode cX6_restore 15 = .ok (.new 51, 3) := by decide +kernel
theorem dX6_restore_18 : decode cX6_restore 18 = .ok (.dup, 1) := by decide +kernel
theorem dX6_restore_19 : decode cX6_restore 19 = .ok (.ldc_w 305, 3) := by decide +kernel
theorem dX6_restore_22 : decode cX6_restore 22 = .ok (.invokespecial 55, 3) := by decide +kernel
theorem dX6_restore_25 : decode cX6_restore 25 = .ok (.athrow, 1) := by decide +kernel
theorem dX6_restore_26 : decode cX6_restore 26 = .ok (.aload_n 0, 1) := by decide +kernel
theorem dX6_restore_27 : decode cX6_restore 27 = .ok (.getfield 36, 3) := by decide +kernel
theorem dX6_restore_30 : decode cX6_restore 30 = .ok (.iload_n 1, 1) := by decide +kernel
theorem dX6_restore_31 : decode cX6_restore 31 = .ok (.aload_n 0, 1) := by decide +kernel
theorem dX6_restore_32 : decode cX6_restore 32 = .ok (.getfield 19, 3) := by decide +kernel
theorem dX6_restore_35 : decode cX6_restore 35 = .ok (.invokevirtual 307, 3) := by decide +kernel
theorem dX6_restore_38 : decode cX6_restore 38 = .ok (.aload_n 0, 1) := by decide +kernel
theorem dX6_restore_39 : decode cX6_restore 39 = .ok (.getfield 29, 3) := by decide +kernel
theorem dX6_restore_42 : decode cX6_restore 42 = .ok (.invokevirtual 72, 3) := by decide +kernel
theorem dX6_restore_45 : decode cX6_restore 45 = .ok (.aload_n 0, 1) := by decide +kernel
theorem dX6_restore_46 : decode cX6_restore 46 = .ok (.getfield 19, 3) := by decide +kernel
theorem dX6_restore_49 : decode cX6_restore 49 = .ok (.getfield 96, 3) := by decide +kernel
theorem dX6_restore_52 : decode cX6_restore 52 = .ok (.ireturn, 1) := by decide +kernel
set_option maxRecDepth 20000 in
theorem ggX6_requireCar_X4_isCar : GoodIn wsX6_requireCar wsX4_isCar := goodIn_r _ [7, 8, 14, 15, 16, 17, 18, 19, 20, 21, 22, 23, 24, 25, 26, 27] rfl (by decide +kernel)
set_option maxRecDepth 20000 in
theorem gX6_requireCar_X4_isCar_n310 : GoodIn wsX6_requireCar (wsX4_isCar) := ggX6_requireCar_X4_isCar
theorem dX6_requireCar_0 : decode cX6_requireCar 0 = .ok (.aload_n 0, 1) := by decide +kernel
theorem dX6_requireCar_1 : decode cX6_requireCar 1 = .ok (.getfield 19, 3) := by decide +kernel
theorem dX6_requireCar_4 : decode cX6_requireCar 4 = .ok (.iload_n 1, 1) := by decide +kernel
theorem dX6_requireCar_5 : decode cX6_requireCar 5 = .ok (.invokevirtual 310, 3) := by decide +kernel
theorem dX6_requireCar_8 : decode cX6_requireCar 8 = .ok (.ifCond .ne 14, 3) := by decide +kernel
theorem dX6_requireCar_11 : decode cX6_requireCar 11 = .ok (.new 157, 3) := by decide +kernel
theorem dX6_requireCar_14 : decode cX6_requireCar 14 = .ok (.dup, 1) := by decide +kernel
theorem dX6_requireCar_15 : decode cX6_requireCar 15 = .ok (.ldc_w 313, 3) := by decide +kernel
theorem dX6_requireCar_18 : decode cX6_requireCar 18 = .ok (.invokespecial 161, 3) := by decide +kernel
theorem dX6_requireCar_21 : decode cX6_requireCar 21 = .ok (.athrow, 1) := by decide +kernel
theorem dX6_requireCar_22 : decode cX6_requireCar 22 = .ok (.return_, 1) := by decide +kernel
set_option maxRecDepth 20000 in
theorem ggX6_requireParked_X4_isParked : GoodIn wsX6_requireParked wsX4_isParked := goodIn_r _ [7, 8, 9, 10, 11, 5, 12, 13, 14, 15, 16, 22, 23, 24, 25, 26, 27, 28, 29, 30, 31, 32, 33, 34, 35] rfl (by decide +kernel)
set_option maxRecDepth 20000 in
theorem gX6_requireParked_X4_isParked_n140 : GoodIn wsX6_requireParked (wsX4_isParked) := ggX6_requireParked_X4_isParked
theorem dX6_requireParked_0 : decode cX6_requireParked 0 = .ok (.aload_n 0, 1) := by decide +kernel
theorem dX6_requireParked_1 : decode cX6_requireParked 1 = .ok (.getfield 19, 3) := by decide +kernel
theorem dX6_requireParked_4 : decode cX6_requireParked 4 = .ok (.iload_n 1, 1) := by decide +kernel
theorem dX6_requireParked_5 : decode cX6_requireParked 5 = .ok (.invokevirtual 140, 3) := by decide +kernel
theorem dX6_requireParked_8 : decode cX6_requireParked 8 = .ok (.ifCond .ne 14, 3) := by decide +kernel
theorem dX6_requireParked_11 : decode cX6_requireParked 11 = .ok (.new 51, 3) := by decide +kernel
theorem dX6_requireParked_14 : decode cX6_requireParked 14 = .ok (.dup, 1) := by decide +kernel
theorem dX6_requireParked_15 : decode cX6_requireParked 15 = .ok (.ldc_w 315, 3) := by decide +kernel
theorem dX6_requireParked_18 : decode cX6_requireParked 18 = .ok (.invokespecial 55, 3) := by decide +kernel
theorem dX6_requireParked_21 : decode cX6_requireParked 21 = .ok (.athrow, 1) := by decide +kernel
theorem dX6_requireParked_22 : decode cX6_requireParked 22 = .ok (.return_, 1) := by decide +kernel
set_option maxRecDepth 20000 in
theorem ggX6_requireCell_X6_isCell : GoodIn wsX6_requireCell wsX6_isCell := goodIn_r _ [6] rfl (by decide +kernel)
set_option maxRecDepth 20000 in
theorem gX6_requireCell_X6_isCell : GoodIn wsX6_requireCell (va_wsS RX6 317 yX6_isCell wsX6_isCell) := goodIn_app (goodIn_r _ [3, 4, 5] rfl (by decide +kernel)) ggX6_requireCell_X6_isCell
theorem dX6_requireCell_0 : decode cX6_requireCell 0 = .ok (.iload_n 0, 1) := by decide +kernel
theorem dX6_requireCell_1 : decode cX6_requireCell 1 = .ok (.invokestatic 317, 3) := by decide +kernel
theorem dX6_requireCell_4 : decode cX6_requireCell 4 = .ok (.ifCond .ne 14, 3) := by decide +kernel
theorem dX6_requireCell_7 : decode cX6_requireCell 7 = .ok (.new 157, 3) := by decide +kernel
theorem dX6_requireCell_10 : decode cX6_requireCell 10 = .ok (.dup, 1) := by decide +kernel
theorem dX6_requireCell_11 : decode cX6_requireCell 11 = .ok (.ldc_w 320, 3) := by decide +kernel
theorem dX6_requireCell_14 : decode cX6_requireCell 14 = .ok (.invokespecial 161, 3) := by decide +kernel
theorem dX6_requireCell_17 : decode cX6_requireCell 17 = .ok (.athrow, 1) := by decide +kernel
theorem dX6_requireCell_18 : decode cX6_requireCell 18 = .ok (.return_, 1) := by decide +kernel
set_option maxRecDepth 20000 in
theorem ggX6_requireLength_X6_isLength : GoodIn wsX6_requireLength wsX6_isLength := goodIn_r _ [6] rfl (by decide +kernel)
set_option maxRecDepth 20000 in
theorem gX6_requireLength_X6_isLength : GoodIn wsX6_requireLength (va_wsS RX6 322 yX6_isLength wsX6_isLength) := goodIn_app (goodIn_r _ [3, 4, 5] rfl (by decide +kernel)) ggX6_requireLength_X6_isLength
theorem dX6_requireLength_0 : decode cX6_requireLength 0 = .ok (.iload_n 0, 1) := by decide +kernel
theorem dX6_requireLength_1 : decode cX6_requireLength 1 = .ok (.invokestatic 322, 3) := by decide +kernel
theorem dX6_requireLength_4 : decode cX6_requireLength 4 = .ok (.ifCond .ne 14, 3) := by decide +kernel
theorem dX6_requireLength_7 : decode cX6_requireLength 7 = .ok (.new 40, 3) := by decide +kernel
theorem dX6_requireLength_10 : decode cX6_requireLength 10 = .ok (.dup, 1) := by decide +kernel
theorem dX6_requireLength_11 : decode cX6_requireLength 11 = .ok (.ldc_w 325, 3) := by decide +kernel
theorem dX6_requireLength_14 : decode cX6_requireLength 14 = .ok (.invokespecial 44, 3) := by decide +kernel
theorem dX6_requireLength_17 : decode cX6_requireLength 17 = .ok (.athrow, 1) := by decide +kernel
theorem dX6_requireLength_18 : decode cX6_requireLength 18 = .ok (.return_, 1) := by decide +kernel
theorem dX6_requireZeroOrOne_0 : decode cX6_requireZeroOrOne 0 = .ok (.iload_n 0, 1) := by decide +kernel
theorem dX6_requireZeroOrOne_1 : decode cX6_requireZeroOrOne 1 = .ok (.ifCond .eq 19, 3) := by decide +kernel
theorem dX6_requireZeroOrOne_4 : decode cX6_requireZeroOrOne 4 = .ok (.iload_n 0, 1) := by decide +kernel
theorem dX6_requireZeroOrOne_5 : decode cX6_requireZeroOrOne 5 = .ok (.iconst 1, 1) := by decide +kernel
theorem dX6_requireZeroOrOne_6 : decode cX6_requireZeroOrOne 6 = .ok (.if_icmp .eq 14, 3) := by decide +kernel
theorem dX6_requireZeroOrOne_9 : decode cX6_requireZeroOrOne 9 = .ok (.new 40, 3) := by decide +kernel
theorem dX6_requireZeroOrOne_12 : decode cX6_requireZeroOrOne 12 = .ok (.dup, 1) := by decide +kernel
theorem dX6_requireZeroOrOne_13 : decode cX6_requireZeroOrOne 13 = .ok (.ldc_w 327, 3) := by decide +kernel
theorem dX6_requireZeroOrOne_16 : decode cX6_requireZeroOrOne 16 = .ok (.invokespecial 44, 3) := by decide +kernel
theorem dX6_requireZeroOrOne_19 : decode cX6_requireZeroOrOne 19 = .ok (.athrow, 1) := by decide +kernel
theorem dX6_requireZeroOrOne_20 : decode cX6_requireZeroOrOne 20 = .ok (.return_, 1) := by decide +kernel
theorem dX6_requireSlot_0 : decode cX6_requireSlot 0 = .ok (.iload_n 0, 1) := by decide +kernel
theorem dX6_requireSlot_1 : decode cX6_requireSlot 1 = .ok (.ifCond .lt 8, 3) := by decide +kernel
theorem dX6_requireSlot_4 : decode cX6_requireSlot 4 = .ok (.iload_n 0, 1) := by decide +kernel
theorem dX6_requireSlot_5 : decode cX6_requireSlot 5 = .ok (.iconst 2, 1) := by decide +kernel
theorem dX6_requireSlot_6 : decode cX6_requireSlot 6 = .ok (.if_icmp .lt 14, 3) := by decide +kernel
theorem dX6_requireSlot_9 : decode cX6_requireSlot 9 = .ok (.new 157, 3) := by decide +kernel
theorem dX6_requireSlot_12 : decode cX6_requireSlot 12 = .ok (.dup, 1) := by decide +kernel
theorem dX6_requireSlot_13 : decode cX6_requireSlot 13 = .ok (.ldc_w 329, 3) := by decide +kernel
theorem dX6_requireSlot_16 : decode cX6_requireSlot 16 = .ok (.invokespecial 161, 3) := by decide +kernel
theorem dX6_requireSlot_19 : decode cX6_requireSlot 19 = .ok (.athrow, 1) := by decide +kernel
theorem dX6_requireSlot_20 : decode cX6_requireSlot 20 = .ok (.return_, 1) := by decide +kernel
theorem dX6_isCell_0 : decode cX6_isCell 0 = .ok (.iload_n 0, 1) := by decide +kernel
theorem dX6_isCell_1 : decode cX6_isCell 1 = .ok (.ifCond .lt 13, 3) := by decide +kernel
theorem dX6_isCell_4 : decode cX6_isCell 4 = .ok (.iload_n 0, 1) := by decide +kernel
theorem dX6_isCell_5 : decode cX6_isCell 5 = .ok (.bipush 80, 2) := by decide +kernel
theorem dX6_isCell_7 : decode cX6_isCell 7 = .ok (.if_icmp .ge 7, 3) := by decide +kernel
theorem dX6_isCell_10 : decode cX6_isCell 10 = .ok (.iconst 1, 1) := by decide +kernel
theorem dX6_isCell_11 : decode cX6_isCell 11 = .ok (.goto 4, 3) := by decide +kernel
theorem dX6_isCell_14 : decode cX6_isCell 14 = .ok (.iconst 0, 1) := by decide +kernel
theorem dX6_isCell_15 : decode cX6_isCell 15 = .ok (.ireturn, 1) := by decide +kernel
theorem dX6_isLength_0 : decode cX6_isLength 0 = .ok (.iload_n 0, 1) := by decide +kernel
theorem dX6_isLength_1 : decode cX6_isLength 1 = .ok (.iconst 2, 1) := by decide +kernel
theorem dX6_isLength_2 : decode cX6_isLength 2 = .ok (.if_icmp .lt 13, 3) := by decide +kernel
theorem dX6_isLength_5 : decode cX6_isLength 5 = .ok (.iload_n 0, 1) := by decide +kernel
theorem dX6_isLength_6 : decode cX6_isLength 6 = .ok (.bipush 8, 2) := by decide +kernel
theorem dX6_isLength_8 : decode cX6_isLength 8 = .ok (.if_icmp .gt 7, 3) := by decide +kernel
theorem dX6_isLength_11 : decode cX6_isLength 11 = .ok (.iconst 1, 1) := by decide +kernel
theorem dX6_isLength_12 : decode cX6_isLength 12 = .ok (.goto 4, 3) := by decide +kernel
theorem dX6_isLength_15 : decode cX6_isLength 15 = .ok (.iconst 0, 1) := by decide +kernel
theorem dX6_isLength_16 : decode cX6_isLength 16 = .ok (.ireturn, 1) := by decide +kernel
theorem dX6_isStay_0 : decode cX6_isStay 0 = .ok (.iload_n 0, 1) := by decide +kernel
theorem dX6_isStay_1 : decode cX6_isStay 1 = .ok (.iconst 1, 1) := by decide +kernel
theorem dX6_isStay_2 : decode cX6_isStay 2 = .ok (.if_icmp .lt 13, 3) := by decide +kernel
theorem dX6_isStay_5 : decode cX6_isStay 5 = .ok (.iload_n 0, 1) := by decide +kernel
theorem dX6_isStay_6 : decode cX6_isStay 6 = .ok (.bipush 99, 2) := by decide +kernel
theorem dX6_isStay_8 : decode cX6_isStay 8 = .ok (.if_icmp .gt 7, 3) := by decide +kernel
theorem dX6_isStay_11 : decode cX6_isStay 11 = .ok (.iconst 1, 1) := by decide +kernel
theorem dX6_isStay_12 : decode cX6_isStay 12 = .ok (.goto 4, 3) := by decide +kernel
theorem dX6_isStay_15 : decode cX6_isStay 15 = .ok (.iconst 0, 1) := by decide +kernel
theorem dX6_isStay_16 : decode cX6_isStay 16 = .ok (.ireturn, 1) := by decide +kernel
theorem dX6_isMinutes_0 : decode cX6_isMinutes 0 = .ok (.iload_n 0, 1) := by decide +kernel
theorem dX6_isMinutes_1 : decode cX6_isMinutes 1 = .ok (.iconst 1, 1) := by decide +kernel
theorem dX6_isMinutes_2 : decode cX6_isMinutes 2 = .ok (.if_icmp .lt 13, 3) := by decide +kernel
theorem dX6_isMinutes_5 : decode cX6_isMinutes 5 = .ok (.iload_n 0, 1) := by decide +kernel
theorem dX6_isMinutes_6 : decode cX6_isMinutes 6 = .ok (.bipush 60, 2) := by decide +kernel
theorem dX6_isMinutes_8 : decode cX6_isMinutes 8 = .ok (.if_icmp .gt 7, 3) := by decide +kernel
theorem dX6_isMinutes_11 : decode cX6_isMinutes 11 = .ok (.iconst 1, 1) := by decide +kernel
theorem dX6_isMinutes_12 : decode cX6_isMinutes 12 = .ok (.goto 4, 3) := by decide +kernel
theorem dX6_isMinutes_15 : decode cX6_isMinutes 15 = .ok (.iconst 0, 1) := by decide +kernel
theorem dX6_isMinutes_16 : decode cX6_isMinutes 16 = .ok (.ireturn, 1) := by decide +kernel
theorem dX6_isSettingValue_0 : decode cX6_isSettingValue 0 = .ok (.iload_n 0, 1) := by decide +kernel
theorem dX6_isSettingValue_1 : decode cX6_isSettingValue 1 = .ok (.tableswitch 74 0 2 #[27, 42, 57], 27) := by decide +kernel
theorem dX6_isSettingValue_28 : decode cX6_isSettingValue 28 = .ok (.iload_n 1, 1) := by decide +kernel
theorem dX6_isSettingValue_29 : decode cX6_isSettingValue 29 = .ok (.ifCond .lt 12, 3) := by decide +kernel
theorem dX6_isSettingValue_32 : decode cX6_isSettingValue 32 = .ok (.iload_n 1, 1) := by decide +kernel
theorem dX6_isSettingValue_33 : decode cX6_isSettingValue 33 = .ok (.iconst 2, 1) := by decide +kernel
theorem dX6_isSettingValue_34 : decode cX6_isSettingValue 34 = .ok (.if_icmp .gt 7, 3) := by decide +kernel
theorem dX6_isSettingValue_37 : decode cX6_isSettingValue 37 = .ok (.iconst 1, 1) := by decide +kernel
theorem dX6_isSettingValue_38 : decode cX6_isSettingValue 38 = .ok (.goto 4, 3) := by decide +kernel
theorem dX6_isSettingValue_41 : decode cX6_isSettingValue 41 = .ok (.iconst 0, 1) := by decide +kernel
theorem dX6_isSettingValue_42 : decode cX6_isSettingValue 42 = .ok (.ireturn, 1) := by decide +kernel
theorem dX6_isSettingValue_43 : decode cX6_isSettingValue 43 = .ok (.iload_n 1, 1) := by decide +kernel
theorem dX6_isSettingValue_44 : decode cX6_isSettingValue 44 = .ok (.ifCond .lt 12, 3) := by decide +kernel
theorem dX6_isSettingValue_47 : decode cX6_isSettingValue 47 = .ok (.iload_n 1, 1) := by decide +kernel
theorem dX6_isSettingValue_48 : decode cX6_isSettingValue 48 = .ok (.iconst 4, 1) := by decide +kernel
theorem dX6_isSettingValue_49 : decode cX6_isSettingValue 49 = .ok (.if_icmp .gt 7, 3) := by decide +kernel
theorem dX6_isSettingValue_52 : decode cX6_isSettingValue 52 = .ok (.iconst 1, 1) := by decide +kernel
theorem dX6_isSettingValue_53 : decode cX6_isSettingValue 53 = .ok (.goto 4, 3) := by decide +kernel
theorem dX6_isSettingValue_56 : decode cX6_isSettingValue 56 = .ok (.iconst 0, 1) := by decide +kernel
theorem dX6_isSettingValue_57 : decode cX6_isSettingValue 57 = .ok (.ireturn, 1) := by decide +kernel
theorem dX6_isSettingValue_58 : decode cX6_isSettingValue 58 = .ok (.iload_n 1, 1) := by decide +kernel
theorem dX6_isSettingValue_59 : decode cX6_isSettingValue 59 = .ok (.iconst 1, 1) := by decide +kernel
theorem dX6_isSettingValue_60 : decode cX6_isSettingValue 60 = .ok (.if_icmp .lt 13, 3) := by decide +kernel
theorem dX6_isSettingValue_63 : decode cX6_isSettingValue 63 = .ok (.iload_n 1, 1) := by decide +kernel
theorem dX6_isSettingValue_64 : decode cX6_isSettingValue 64 = .ok (.bipush 30, 2) := by decide +kernel
theorem dX6_isSettingValue_66 : decode cX6_isSettingValue 66 = .ok (.if_icmp .gt 7, 3) := by decide +kernel
theorem dX6_isSettingValue_69 : decode cX6_isSettingValue 69 = .ok (.iconst 1, 1) := by decide +kernel
theorem dX6_isSettingValue_70 : decode cX6_isSettingValue 70 = .ok (.goto 4, 3) := by decide +kernel
theorem dX6_isSettingValue_73 : decode cX6_isSettingValue 73 = .ok (.iconst 0, 1) := by decide +kernel
theorem dX6_isSettingValue_74 : decode cX6_isSettingValue 74 = .ok (.ireturn, 1) := by decide +kernel
theorem dX6_isSettingValue_75 : decode cX6_isSettingValue 75 = .ok (.iconst 0, 1) := by decide +kernel
theorem dX6_isSettingValue_76 : decode cX6_isSettingValue 76 = .ok (.ireturn, 1) := by decide +kernel
theorem dX6_nextChance_0 : decode cX6_nextChance 0 = .ok (.lload_n 0, 1) := by decide +kernel
theorem dX6_nextChance_1 : decode cX6_nextChance 1 = .ok (.ldc2_w 331, 3) := by decide +kernel
theorem dX6_nextChance_4 : decode cX6_nextChance 4 = .ok (.lmul, 1) := by decide +kernel
theorem dX6_nextChance_5 : decode cX6_nextChance 5 = .ok (.ldc2_w 333, 3) := by decide +kernel
theorem dX6_nextChance_8 : decode cX6_nextChance 8 = .ok (.ladd, 1) := by decide +kernel
theorem dX6_nextChance_9 : decode cX6_nextChance 9 = .ok (.lreturn, 1) := by decide +kernel
theorem dX6_get_0 : decode cX6_get 0 = .ok (.aload_n 0, 1) := by decide +kernel
theorem dX6_get_1 : decode cX6_get 1 = .ok (.ifnull 13, 3) := by decide +kernel
theorem dX6_get_4 : decode cX6_get 4 = .ok (.iload_n 1, 1) := by decide +kernel
theorem dX6_get_5 : decode cX6_get 5 = .ok (.ifCond .lt 9, 3) := by decide +kernel
theorem dX6_get_8 : decode cX6_get 8 = .ok (.iload_n 1, 1) := by decide +kernel
theorem dX6_get_9 : decode cX6_get 9 = .ok (.aload_n 0, 1) := by decide +kernel
theorem dX6_get_10 : decode cX6_get 10 = .ok (.arraylength, 1) := by decide +kernel
theorem dX6_get_11 : decode cX6_get 11 = .ok (.if_icmp .lt 5, 3) := by decide +kernel
theorem dX6_get_14 : decode cX6_get 14 = .ok (.iconst (-1), 1) := by decide +kernel
theorem dX6_get_15 : decode cX6_get 15 = .ok (.ireturn, 1) := by decide +kernel
theorem dX6_get_16 : decode cX6_get 16 = .ok (.aload_n 0, 1) := by decide +kernel
theorem dX6_get_17 : decode cX6_get 17 = .ok (.iload_n 1, 1) := by decide +kernel
theorem dX6_get_18 : decode cX6_get 18 = .ok (.iaload, 1) := by decide +kernel
theorem dX6_get_19 : decode cX6_get 19 = .ok (.ireturn, 1) := by decide +kernel
theorem dX6_put_0 : decode cX6_put 0 = .ok (.aload_n 0, 1) := by decide +kernel
theorem dX6_put_1 : decode cX6_put 1 = .ok (.ifnull 13, 3) := by decide +kernel
theorem dX6_put_4 : decode cX6_put 4 = .ok (.iload_n 1, 1) := by decide +kernel
theorem dX6_put_5 : decode cX6_put 5 = .ok (.ifCond .lt 9, 3) := by decide +kernel
theorem dX6_put_8 : decode cX6_put 8 = .ok (.iload_n 1, 1) := by decide +kernel
theorem dX6_put_9 : decode cX6_put 9 = .ok (.aload_n 0, 1) := by decide +kernel
theorem dX6_put_10 : decode cX6_put 10 = .ok (.arraylength, 1) := by decide +kernel
theorem dX6_put_11 : decode cX6_put 11 = .ok (.if_icmp .lt 4, 3) := by decide +kernel
theorem dX6_put_14 : decode cX6_put 14 = .ok (.return_, 1) := by decide +kernel
theorem dX6_put_15 : decode cX6_put 15 = .ok (.aload_n 0, 1) := by decide +kernel
theorem dX6_put_16 : decode cX6_put 16 = .ok (.iload_n 1, 1) := by decide +kernel
theorem dX6_put_17 : decode cX6_put 17 = .ok (.iload_n 2, 1) := by decide +kernel
theorem dX6_put_18 : decode cX6_put 18 = .ok (.iastore, 1) := by decide +kernel
theorem dX6_put_19 : decode cX6_put 19 = .ok (.return_, 1) := by decide +kernel
theorem dX6_copyRow_0 : decode cX6_copyRow 0 = .ok (.aload_n 0, 1) := by decide +kernel
theorem dX6_copyRow_1 : decode cX6_copyRow 1 = .ok (.ifnull 14, 3) := by decide +kernel
theorem dX6_copyRow_4 : decode cX6_copyRow 4 = .ok (.aload_n 1, 1) := by decide +kernel
theorem dX6_copyRow_5 : decode cX6_copyRow 5 = .ok (.ifnull 10, 3) := by decide +kernel
theorem dX6_copyRow_8 : decode cX6_copyRow 8 = .ok (.aload_n 0, 1) := by decide +kernel
theorem dX6_copyRow_9 : decode cX6_copyRow 9 = .ok (.arraylength, 1) := by decide +kernel
theorem dX6_copyRow_10 : decode cX6_copyRow 10 = .ok (.aload_n 1, 1) := by decide +kernel
theorem dX6_copyRow_11 : decode cX6_copyRow 11 = .ok (.arraylength, 1) := by decide +kernel
theorem dX6_copyRow_12 : decode cX6_copyRow 12 = .ok (.if_icmp .eq 4, 3) := by decide +kernel
theorem dX6_copyRow_15 : decode cX6_copyRow 15 = .ok (.return_, 1) := by decide +kernel
theorem dX6_copyRow_16 : decode cX6_copyRow 16 = .ok (.aload_n 0, 1) := by decide +kernel
theorem dX6_copyRow_17 : decode cX6_copyRow 17 = .ok (.iconst 0, 1) := by decide +kernel
theorem dX6_copyRow_18 : decode cX6_copyRow 18 = .ok (.aload_n 1, 1) := by decide +kernel
theorem dX6_copyRow_19 : decode cX6_copyRow 19 = .ok (.iconst 0, 1) := by decide +kernel
theorem dX6_copyRow_20 : decode cX6_copyRow 20 = .ok (.aload_n 0, 1) := by decide +kernel
theorem dX6_copyRow_21 : decode cX6_copyRow 21 = .ok (.arraylength, 1) := by decide +kernel
theorem dX6_copyRow_22 : decode cX6_copyRow 22 = .ok (.invokestatic 335, 3) := by decide +kernel
theorem dX6_copyRow_25 : decode cX6_copyRow 25 = .ok (.return_, 1) := by decide +kernel
theorem dX6_streetOf_0 : decode cX6_streetOf 0 = .ok (.aload_n 0, 1) := by decide +kernel
theorem dX6_streetOf_1 : decode cX6_streetOf 1 = .ok (.ifnull 13, 3) := by decide +kernel
theorem dX6_streetOf_4 : decode cX6_streetOf 4 = .ok (.iload_n 1, 1) := by decide +kernel
theorem dX6_streetOf_5 : decode cX6_streetOf 5 = .ok (.ifCond .lt 9, 3) := by decide +kernel
theorem dX6_streetOf_8 : decode cX6_streetOf 8 = .ok (.iload_n 1, 1) := by decide +kernel
theorem dX6_streetOf_9 : decode cX6_streetOf 9 = .ok (.aload_n 0, 1) := by decide +kernel
theorem dX6_streetOf_10 : decode cX6_streetOf 10 = .ok (.arraylength, 1) := by decide +kernel
theorem dX6_streetOf_11 : decode cX6_streetOf 11 = .ok (.if_icmp .lt 5, 3) := by decide +kernel
theorem dX6_streetOf_14 : decode cX6_streetOf 14 = .ok (.aconst_null, 1) := by decide +kernel
theorem dX6_streetOf_15 : decode cX6_streetOf 15 = .ok (.areturn, 1) := by decide +kernel
theorem dX6_streetOf_16 : decode cX6_streetOf 16 = .ok (.aload_n 0, 1) := by decide +kernel
theorem dX6_streetOf_17 : decode cX6_streetOf 17 = .ok (.iload_n 1, 1) := by decide +kernel
theorem dX6_streetOf_18 : decode cX6_streetOf 18 = .ok (.aaload, 1) := by decide +kernel
theorem dX6_streetOf_19 : decode cX6_streetOf 19 = .ok (.areturn, 1) := by decide +kernel
theorem dJ7_fill_53178_0 : decode cJ7_fill_53178 0 = .ok (.iconst 0, 1) := by decide +kernel
theorem dJ7_fill_53178_1 : decode cJ7_fill_53178 1 = .ok (.istore_n 2, 1) := by decide +kernel
theorem dJ7_fill_53178_2 : decode cJ7_fill_53178 2 = .ok (.aload_n 0, 1) := by decide +kernel
theorem dJ7_fill_53178_3 : decode cJ7_fill_53178 3 = .ok (.arraylength, 1) := by decide +kernel
theorem dJ7_fill_53178_4 : decode cJ7_fill_53178 4 = .ok (.istore_n 3, 1) := by decide +kernel
theorem dJ7_fill_53178_5 : decode cJ7_fill_53178 5 = .ok (.iload_n 2, 1) := by decide +kernel
theorem dJ7_fill_53178_6 : decode cJ7_fill_53178 6 = .ok (.iload_n 3, 1) := by decide +kernel
theorem dJ7_fill_53178_7 : decode cJ7_fill_53178 7 = .ok (.if_icmp .ge 13, 3) := by decide +kernel
theorem dJ7_fill_53178_10 : decode cJ7_fill_53178 10 = .ok (.aload_n 0, 1) := by decide +kernel
theorem dJ7_fill_53178_11 : decode cJ7_fill_53178 11 = .ok (.iload_n 2, 1) := by decide +kernel
theorem dJ7_fill_53178_12 : decode cJ7_fill_53178 12 = .ok (.iload_n 1, 1) := by decide +kernel
theorem dJ7_fill_53178_13 : decode cJ7_fill_53178 13 = .ok (.iastore, 1) := by decide +kernel
theorem dJ7_fill_53178_14 : decode cJ7_fill_53178 14 = .ok (.iinc 2 1, 3) := by decide +kernel
theorem dJ7_fill_53178_17 : decode cJ7_fill_53178 17 = .ok (.goto (-12), 3) := by decide +kernel
theorem dJ7_fill_53178_20 : decode cJ7_fill_53178 20 = .ok (.return_, 1) := by decide +kernel
set_option maxRecDepth 20000 in
theorem ggL_hydrants_X6_hydrant : GoodIn wsL_hydrants wsX6_hydrant := goodIn_ca (goodIn_ca (goodIn_r _ [9, 10, 11, 12, 13, 14, 15, 8, 16, 17, 18, 19, 20, 21, 22, 23, 24, 25, 26, 27, 28, 29, 30, 31, 32, 33, 34, 35, 36, 37, 38, 39, 40, 41, 42, 43, 44, 45, 46, 47, 48, 49, 50, 51, 52, 53, 54, 55, 56, 57, 58, 59, 60, 61, 62, 63, 64, 65, 66, 67, 68, 69, 70, 71, 72, 73, 74, 75, 76, 77, 78, 79, 80, 81, 82, 83, 84, 85, 86, 87, 88, 89, 90, 91, 92, 93, 94, 95, 96, 97, 98, 99, 100, 101, 102, 103] rfl (by decide +kernel)) (goodIn_sub (fun _ h => List.mem_cons_of_mem _ (List.mem_append_left _ (List.mem_append_right _ h))) (by decide +kernel))) (goodIn_sub (fun _ h => List.mem_cons_of_mem _ (List.mem_append_right _ h)) (by decide +kernel))
set_option maxRecDepth 20000 in
theorem gL_hydrants_X6_hydrant : GoodIn wsL_hydrants (wsV RL 7 RX6 yX6_hydrant wsX6_hydrant) := goodIn_app (goodIn_r _ [5, 6, 7, 8] rfl (by decide +kernel)) ggL_hydrants_X6_hydrant
theorem dL_hydrants_0 : decode cL_hydrants 0 = .ok (.aload_n 0, 1) := by decide +kernel
theorem dL_hydrants_1 : decode cL_hydrants 1 = .ok (.iload_n 1, 1) := by decide +kernel
theorem dL_hydrants_2 : decode cL_hydrants 2 = .ok (.iload_n 2, 1) := by decide +kernel
theorem dL_hydrants_3 : decode cL_hydrants 3 = .ok (.invokevirtual 7, 3) := by decide +kernel
theorem dL_hydrants_6 : decode cL_hydrants 6 = .ok (.ireturn, 1) := by decide +kernel
theorem dL_hydrants_7 : decode cL_hydrants 7 = .ok (.astore_n 3, 1) := by decide +kernel
theorem dL_hydrants_8 : decode cL_hydrants 8 = .ok (.ldc 15, 2) := by decide +kernel
theorem dL_hydrants_10 : decode cL_hydrants 10 = .ok (.ireturn, 1) := by decide +kernel
theorem dL_hydrants_11 : decode cL_hydrants 11 = .ok (.astore_n 3, 1) := by decide +kernel
theorem dL_hydrants_12 : decode cL_hydrants 12 = .ok (.ldc 18, 2) := by decide +kernel
theorem dL_hydrants_14 : decode cL_hydrants 14 = .ok (.ireturn, 1) := by decide +kernel
set_option maxRecDepth 20000 in
theorem ggL_jams_X6_jam : GoodIn wsL_jams wsX6_jam := goodIn_ca (goodIn_r _ [7, 8, 9, 10, 11, 6, 12, 13, 14, 15, 16, 17, 18, 19, 20, 21, 22, 23, 24, 25, 26, 27, 28, 29, 30, 31, 32, 33, 34, 35, 36, 37, 38, 39, 40, 41, 42, 43, 44, 45, 46, 47, 48, 49, 50, 51, 52, 53, 54, 55, 56, 57, 58, 59, 60, 61, 62, 63, 64, 65, 66, 67, 68, 69, 70, 71, 72, 73, 74, 75, 76, 77, 78, 79, 80, 81, 82, 83, 84, 85, 86, 87, 88, 89, 90, 91, 92, 93, 94, 95, 96, 97] rfl (by decide +kernel)) (goodIn_sub (fun _ h => List.mem_cons_of_mem _ (List.mem_append_right _ h)) (by decide +kernel))
set_option maxRecDepth 20000 in
theorem gL_jams_X6_jam : GoodIn wsL_jams (wsV RL 19 RX6 yX6_jam wsX6_jam) := goodIn_app (goodIn_r _ [3, 4, 5, 6] rfl (by decide +kernel)) ggL_jams_X6_jam
theorem dL_jams_0 : decode cL_jams 0 = .ok (.aload_n 0, 1) := by decide +kernel
theorem dL_jams_1 : decode cL_jams 1 = .ok (.iload_n 1, 1) := by decide +kernel
theorem dL_jams_2 : decode cL_jams 2 = .ok (.lload_n 2, 1) := by decide +kernel
theorem dL_jams_3 : decode cL_jams 3 = .ok (.invokevirtual 19, 3) := by decide +kernel
theorem dL_jams_6 : decode cL_jams 6 = .ok (.ireturn, 1) := by decide +kernel
theorem dL_jams_7 : decode cL_jams 7 = .ok (.astore 4, 2) := by decide +kernel
theorem dL_jams_9 : decode cL_jams 9 = .ok (.ldc 25, 2) := by decide +kernel
theorem dL_jams_11 : decode cL_jams 11 = .ok (.ireturn, 1) := by decide +kernel
set_option maxRecDepth 20000 in
theorem ggL_doScript_X6_runScript : GoodIn wsL_doScript wsX6_runScript := goodIn_ca (goodIn_r _ [7, 8, 9, 10, 11, 12, 13, 14, 15, 16, 17, 18, 19, 20, 21, 22, 23, 24, 25, 26, 27, 28, 29, 30, 31, 6, 32, 33, 34, 35, 36, 37, 38, 39, 40, 41, 42, 43, 44, 45, 46, 47, 48, 49, 50, 51, 52, 53, 54, 55, 56, 57, 58, 59, 60, 61, 62, 63, 64, 65, 66, 67, 68, 69, 70, 71, 72, 73, 74, 75, 76, 77, 78, 79, 80, 81, 82, 83, 84, 85, 86, 87, 88, 89, 90, 91, 92, 93, 94, 95, 96, 97, 98, 99, 100, 101, 102, 103, 104, 105, 106, 107, 108, 109, 110, 111, 112, 113, 114, 115, 116, 117, 118, 119, 120, 121, 122, 123, 124, 125, 126, 127, 128, 129, 130, 131, 132, 133, 134, 135, 136, 137, 138, 139, 140, 141, 142, 143, 144, 145, 146, 147, 148, 149, 150, 151, 152, 153, 154, 155, 156, 157, 158, 159, 160, 161, 162, 163, 164, 165, 166, 167, 168, 169, 170, 171, 172, 173, 174, 175, 176, 177, 178, 179, 180, 181, 182, 183, 184, 185, 186, 187, 188, 189] rfl (by decide +kernel)) (goodIn_sub (fun _ h => List.mem_cons_of_mem _ (List.mem_append_right _ h)) (by decide +kernel))
set_option maxRecDepth 20000 in
theorem gL_doScript_X6_runScript : GoodIn wsL_doScript (wsV RL 26 RX6 yX6_runScript wsX6_runScript) := goodIn_app (goodIn_r _ [3, 4, 5, 6] rfl (by decide +kernel)) ggL_doScript_X6_runScript
theorem dL_doScript_0 : decode cL_doScript 0 = .ok (.aload_n 0, 1) := by decide +kernel
theorem dL_doScript_1 : decode cL_doScript 1 = .ok (.iload_n 1, 1) := by decide +kernel
theorem dL_doScript_2 : decode cL_doScript 2 = .ok (.lload_n 2, 1) := by decide +kernel
theorem dL_doScript_3 : decode cL_doScript 3 = .ok (.invokevirtual 26, 3) := by decide +kernel
theorem dL_doScript_6 : decode cL_doScript 6 = .ok (.ireturn, 1) := by decide +kernel
theorem dL_doScript_7 : decode cL_doScript 7 = .ok (.astore 4, 2) := by decide +kernel
theorem dL_doScript_9 : decode cL_doScript 9 = .ok (.ldc 25, 2) := by decide +kernel
theorem dL_doScript_11 : decode cL_doScript 11 = .ok (.ireturn, 1) := by decide +kernel
set_option maxRecDepth 20000 in
theorem ggL_doSimulate_X6_simulate : GoodIn wsL_doSimulate wsX6_simulate := goodIn_ca (goodIn_r _ [7, 8, 9, 10, 11, 12, 13, 14, 15, 16, 17, 18, 19, 20, 21, 22, 23, 24, 25, 26, 27, 28, 29, 30, 6, 31, 32, 33, 34, 35, 36, 37, 38, 39, 40, 41, 42, 43, 44, 45, 46, 47, 48, 49, 50, 51, 52, 53, 54, 55, 56, 57, 58, 59, 60, 61, 62, 63, 64, 65, 66, 67, 68, 69, 70, 71, 72, 73, 74, 75, 76, 77, 78, 79, 80, 81, 82, 83, 84, 85, 86, 87, 88, 89, 90, 91, 92, 93, 94, 95, 96, 97, 98, 99, 100, 101, 102, 103, 104, 105, 106, 107, 108, 109, 110, 111, 112, 113, 114, 115, 116, 117, 118, 119, 120, 121, 122, 123, 124, 125, 126, 127, 128, 129, 130, 131, 132, 133, 134, 135, 136, 137, 138, 139, 140, 141, 142, 143, 144, 145, 146, 147, 148, 149, 150, 151, 152, 153, 154, 155, 156, 157, 158, 159, 160, 161, 162, 163, 164, 165, 166, 167, 168, 169, 170, 171, 172, 173, 174] rfl (by decide +kernel)) (goodIn_sub (fun _ h => List.mem_cons_of_mem _ (List.mem_append_right _ h)) (by decide +kernel))
set_option maxRecDepth 20000 in
theorem gL_doSimulate_X6_simulate : GoodIn wsL_doSimulate (wsV RL 29 RX6 yX6_simulate wsX6_simulate) := goodIn_app (goodIn_r _ [3, 4, 5, 6] rfl (by decide +kernel)) ggL_doSimulate_X6_simulate
theorem dL_doSimulate_0 : decode cL_doSimulate 0 = .ok (.aload_n 0, 1) := by decide +kernel
theorem dL_doSimulate_1 : decode cL_doSimulate 1 = .ok (.lload_n 1, 1) := by decide +kernel
theorem dL_doSimulate_2 : decode cL_doSimulate 2 = .ok (.iload_n 3, 1) := by decide +kernel
theorem dL_doSimulate_3 : decode cL_doSimulate 3 = .ok (.invokevirtual 29, 3) := by decide +kernel
theorem dL_doSimulate_6 : decode cL_doSimulate 6 = .ok (.ireturn, 1) := by decide +kernel
theorem dL_doSimulate_7 : decode cL_doSimulate 7 = .ok (.astore 4, 2) := by decide +kernel
theorem dL_doSimulate_9 : decode cL_doSimulate 9 = .ok (.ldc 25, 2) := by decide +kernel
theorem dL_doSimulate_11 : decode cL_doSimulate 11 = .ok (.ireturn, 1) := by decide +kernel
set_option maxRecDepth 20000 in
theorem ggL_tryAppend_X6_append : GoodIn wsL_tryAppend wsX6_append := goodIn_ca (goodIn_ca (goodIn_r _ [9, 10, 11, 12, 13, 14, 15, 16, 17, 18, 19, 20, 21, 22, 23, 24, 25, 26, 27, 28, 29, 30] rfl (by decide +kernel)) (goodIn_sub (fun _ h => List.mem_cons_of_mem _ (List.mem_append_left _ (List.mem_append_right _ h))) (by decide +kernel))) (goodIn_sub (fun _ h => List.mem_cons_of_mem _ (List.mem_append_right _ h)) (by decide +kernel))
set_option maxRecDepth 20000 in
theorem gL_tryAppend_X6_append : GoodIn wsL_tryAppend (wsV RL 33 RX6 yX6_append wsX6_append) := goodIn_app (goodIn_r _ [5, 6, 7, 8] rfl (by decide +kernel)) ggL_tryAppend_X6_append
theorem dL_tryAppend_0 : decode cL_tryAppend 0 = .ok (.aload_n 0, 1) := by decide +kernel
theorem dL_tryAppend_1 : decode cL_tryAppend 1 = .ok (.iload_n 1, 1) := by decide +kernel
theorem dL_tryAppend_2 : decode cL_tryAppend 2 = .ok (.invokevirtual 33, 3) := by decide +kernel
theorem dL_tryAppend_5 : decode cL_tryAppend 5 = .ok (.ireturn, 1) := by decide +kernel
theorem dL_tryAppend_6 : decode cL_tryAppend 6 = .ok (.astore_n 2, 1) := by decide +kernel
theorem dL_tryAppend_7 : decode cL_tryAppend 7 = .ok (.ldc 25, 2) := by decide +kernel
theorem dL_tryAppend_9 : decode cL_tryAppend 9 = .ok (.ireturn, 1) := by decide +kernel
theorem dL_tryAppend_10 : decode cL_tryAppend 10 = .ok (.astore_n 2, 1) := by decide +kernel
theorem dL_tryAppend_11 : decode cL_tryAppend 11 = .ok (.ldc 18, 2) := by decide +kernel
theorem dL_tryAppend_13 : decode cL_tryAppend 13 = .ok (.ireturn, 1) := by decide +kernel
set_option maxRecDepth 20000 in
theorem ggL_tryLoad_X6_load : GoodIn wsL_tryLoad wsX6_load := goodIn_ca (goodIn_r _ [7, 8, 9, 10, 11, 12, 13, 14, 15, 16, 17, 18, 19, 20, 21, 22, 23, 24, 25, 26, 27, 28, 29, 30, 31, 32, 33, 34, 35, 36, 37, 38, 39, 40, 41, 42, 43, 44, 45, 46, 47, 48, 49, 50, 51, 52, 53, 54, 55, 56, 57, 58, 59, 60, 61, 62, 63, 64, 65, 66, 67, 68, 69, 70, 71, 72, 73, 74, 75, 76, 77, 78, 79, 80, 81, 82, 83, 84, 85, 86, 87, 88, 89, 90, 91, 92, 93, 94, 95, 96, 97, 98, 99, 100, 101, 102, 103, 6, 104, 105, 106, 107, 108, 109, 110, 111, 112, 113, 114, 115, 116, 117, 118, 119, 120, 121, 122, 123, 124, 125, 126, 127, 128, 129, 130, 131, 132, 133, 134, 135, 136, 137, 138, 139, 140, 141, 142, 143, 144, 145, 146, 147, 148, 149, 150, 151, 152, 153, 154, 155, 156, 157, 158, 159, 160, 161, 162, 163, 164, 165, 166, 167, 168, 169, 170, 171, 172, 173, 174, 175, 176, 177, 178, 179, 180, 181, 182, 183, 184, 185, 186, 187, 188, 189, 190, 191, 192, 193, 194, 195, 196, 197, 198, 199, 200, 201, 202, 203, 204, 205, 206, 207, 208, 209, 210, 211, 212, 213, 214, 215, 216, 217, 218, 219, 220, 221, 222, 223, 224, 225, 226, 227, 228, 229, 230, 231, 232, 233, 234, 235, 236, 237, 238, 239, 240] rfl (by decide +kernel)) (goodIn_sub (fun _ h => List.mem_cons_of_mem _ (List.mem_append_right _ h)) (by decide +kernel))
set_option maxRecDepth 20000 in
theorem gL_tryLoad_X6_load : GoodIn wsL_tryLoad (wsV RL 37 RX6 yX6_load wsX6_load) := goodIn_app (goodIn_r _ [3, 4, 5, 6] rfl (by decide +kernel)) ggL_tryLoad_X6_load
theorem dL_tryLoad_0 : decode cL_tryLoad 0 = .ok (.aload_n 0, 1) := by decide +kernel
theorem dL_tryLoad_1 : decode cL_tryLoad 1 = .ok (.invokevirtual 37, 3) := by decide +kernel
theorem dL_tryLoad_4 : decode cL_tryLoad 4 = .ok (.ireturn, 1) := by decide +kernel
theorem dL_tryLoad_5 : decode cL_tryLoad 5 = .ok (.astore_n 1, 1) := by decide +kernel
theorem dL_tryLoad_6 : decode cL_tryLoad 6 = .ok (.ldc 18, 2) := by decide +kernel
theorem dL_tryLoad_8 : decode cL_tryLoad 8 = .ok (.ireturn, 1) := by decide +kernel
set_option maxRecDepth 20000 in
theorem ggL_tryAbout_X6_about : GoodIn wsL_tryAbout wsX6_about := goodIn_ca (goodIn_r _ [7, 8, 9, 10, 11, 12, 13, 14, 15, 16, 17, 6, 18, 19, 20, 21, 22, 23, 24, 25, 26, 27, 28, 29, 30, 31, 32, 33, 34, 35, 36, 37, 38, 39, 40, 41, 42, 43, 44, 45, 46, 47, 48, 49, 50, 51, 52] rfl (by decide +kernel)) (goodIn_sub (fun _ h => List.mem_cons_of_mem _ (List.mem_append_right _ h)) (by decide +kernel))
set_option maxRecDepth 20000 in
theorem gL_tryAbout_X6_about : GoodIn wsL_tryAbout (wsV RL 41 RX6 yX6_about wsX6_about) := goodIn_app (goodIn_r _ [3, 4, 5, 6] rfl (by decide +kernel)) ggL_tryAbout_X6_about
theorem dL_tryAbout_0 : decode cL_tryAbout 0 = .ok (.aload_n 0, 1) := by decide +kernel
theorem dL_tryAbout_1 : decode cL_tryAbout 1 = .ok (.iload_n 1, 1) := by decide +kernel
theorem dL_tryAbout_2 : decode cL_tryAbout 2 = .ok (.invokevirtual 41, 3) := by decide +kernel
theorem dL_tryAbout_5 : decode cL_tryAbout 5 = .ok (.ireturn, 1) := by decide +kernel
theorem dL_tryAbout_6 : decode cL_tryAbout 6 = .ok (.astore_n 2, 1) := by decide +kernel
theorem dL_tryAbout_7 : decode cL_tryAbout 7 = .ok (.ldc 25, 2) := by decide +kernel
theorem dL_tryAbout_9 : decode cL_tryAbout 9 = .ok (.ireturn, 1) := by decide +kernel
set_option maxRecDepth 20000 in
theorem ggL_tryCar_X6_carOf : GoodIn wsL_tryCar wsX6_carOf := goodIn_ca (goodIn_ca (goodIn_r _ [9, 10, 11, 12, 13, 14, 15, 8, 16, 17, 18, 19, 20, 21, 22, 23, 24, 25, 26, 27, 28, 29, 30, 31, 32, 33, 34, 35, 36, 37, 38, 39, 40, 41, 42, 43, 44, 45, 46, 47, 48, 49, 50, 51, 52, 53, 54, 55] rfl (by decide +kernel)) (goodIn_sub (fun _ h => List.mem_cons_of_mem _ (List.mem_append_left _ (List.mem_append_right _ h))) (by decide +kernel))) (goodIn_sub (fun _ h => List.mem_cons_of_mem _ (List.mem_append_right _ h)) (by decide +kernel))
set_option maxRecDepth 20000 in
theorem gL_tryCar_X6_carOf : GoodIn wsL_tryCar (wsV RL 44 RX6 yX6_carOf wsX6_carOf) := goodIn_app (goodIn_r _ [5, 6, 7, 8] rfl (by decide +kernel)) ggL_tryCar_X6_carOf
theorem dL_tryCar_0 : decode cL_tryCar 0 = .ok (.aload_n 0, 1) := by decide +kernel
theorem dL_tryCar_1 : decode cL_tryCar 1 = .ok (.iload_n 1, 1) := by decide +kernel
theorem dL_tryCar_2 : decode cL_tryCar 2 = .ok (.iload_n 2, 1) := by decide +kernel
theorem dL_tryCar_3 : decode cL_tryCar 3 = .ok (.invokevirtual 44, 3) := by decide +kernel
theorem dL_tryCar_6 : decode cL_tryCar 6 = .ok (.ireturn, 1) := by decide +kernel
theorem dL_tryCar_7 : decode cL_tryCar 7 = .ok (.astore_n 3, 1) := by decide +kernel
theorem dL_tryCar_8 : decode cL_tryCar 8 = .ok (.ldc 15, 2) := by decide +kernel
theorem dL_tryCar_10 : decode cL_tryCar 10 = .ok (.ireturn, 1) := by decide +kernel
theorem dL_tryCar_11 : decode cL_tryCar 11 = .ok (.astore_n 3, 1) := by decide +kernel
theorem dL_tryCar_12 : decode cL_tryCar 12 = .ok (.ldc 25, 2) := by decide +kernel
theorem dL_tryCar_14 : decode cL_tryCar 14 = .ok (.ireturn, 1) := by decide +kernel
set_option maxRecDepth 20000 in
theorem ggL_tryAt_X6_at : GoodIn wsL_tryAt wsX6_at := goodIn_ca (goodIn_r _ [7, 8, 9, 10, 6, 11, 12, 13, 14, 15, 16, 17, 18, 19, 20, 21, 22, 23, 24, 25, 26, 27, 28, 29, 30, 31, 32, 33, 34, 35, 36, 37, 38] rfl (by decide +kernel)) (goodIn_sub (fun _ h => List.mem_cons_of_mem _ (List.mem_append_right _ h)) (by decide +kernel))
set_option maxRecDepth 20000 in
theorem gL_tryAt_X6_at : GoodIn wsL_tryAt (wsV RL 48 RX6 yX6_at wsX6_at) := goodIn_app (goodIn_r _ [3, 4, 5, 6] rfl (by decide +kernel)) ggL_tryAt_X6_at
theorem dL_tryAt_0 : decode cL_tryAt 0 = .ok (.aload_n 0, 1) := by decide +kernel
theorem dL_tryAt_1 : decode cL_tryAt 1 = .ok (.iload_n 1, 1) := by decide +kernel
theorem dL_tryAt_2 : decode cL_tryAt 2 = .ok (.invokevirtual 48, 3) := by decide +kernel
theorem dL_tryAt_5 : decode cL_tryAt 5 = .ok (.ireturn, 1) := by decide +kernel
theorem dL_tryAt_6 : decode cL_tryAt 6 = .ok (.astore_n 2, 1) := by decide +kernel
theorem dL_tryAt_7 : decode cL_tryAt 7 = .ok (.ldc 15, 2) := by decide +kernel
theorem dL_tryAt_9 : decode cL_tryAt 9 = .ok (.ireturn, 1) := by decide +kernel
set_option maxRecDepth 20000 in
theorem ggL_tryGap_X6_gap : GoodIn wsL_tryGap wsX6_gap := goodIn_ca (goodIn_ca (goodIn_r _ [9, 10, 11, 12, 13, 14, 15, 16, 17, 18, 19, 8, 20, 21, 22, 23, 24, 25, 26, 27, 28, 29, 30, 31, 32, 33, 34, 35, 36, 37, 38, 39, 40, 41, 42, 43, 44] rfl (by decide +kernel)) (goodIn_sub (fun _ h => List.mem_cons_of_mem _ (List.mem_append_left _ (List.mem_append_right _ h))) (by decide +kernel))) (goodIn_sub (fun _ h => List.mem_cons_of_mem _ (List.mem_append_right _ h)) (by decide +kernel))
set_option maxRecDepth 20000 in
theorem gL_tryGap_X6_gap : GoodIn wsL_tryGap (wsV RL 51 RX6 yX6_gap wsX6_gap) := goodIn_app (goodIn_r _ [5, 6, 7, 8] rfl (by decide +kernel)) ggL_tryGap_X6_gap
theorem dL_tryGap_0 : decode cL_tryGap 0 = .ok (.aload_n 0, 1) := by decide +kernel
theorem dL_tryGap_1 : decode cL_tryGap 1 = .ok (.iload_n 1, 1) := by decide +kernel
theorem dL_tryGap_2 : decode cL_tryGap 2 = .ok (.iload_n 2, 1) := by decide +kernel
theorem dL_tryGap_3 : decode cL_tryGap 3 = .ok (.invokevirtual 51, 3) := by decide +kernel
theorem dL_tryGap_6 : decode cL_tryGap 6 = .ok (.ireturn, 1) := by decide +kernel
theorem dL_tryGap_7 : decode cL_tryGap 7 = .ok (.astore_n 3, 1) := by decide +kernel
theorem dL_tryGap_8 : decode cL_tryGap 8 = .ok (.ldc 15, 2) := by decide +kernel
theorem dL_tryGap_10 : decode cL_tryGap 10 = .ok (.ireturn, 1) := by decide +kernel
theorem dL_tryGap_11 : decode cL_tryGap 11 = .ok (.astore_n 3, 1) := by decide +kernel
theorem dL_tryGap_12 : decode cL_tryGap 12 = .ok (.ldc 25, 2) := by decide +kernel
theorem dL_tryGap_14 : decode cL_tryGap 14 = .ok (.ireturn, 1) := by decide +kernel
set_option maxRecDepth 20000 in
theorem ggL_trySetting_X6_setting : GoodIn wsL_trySetting wsX6_setting := goodIn_ca (goodIn_r _ [7, 8, 9, 10, 11, 12, 13, 14, 15, 16, 17, 18, 19, 20, 21, 22, 23, 24, 25, 26, 27, 28, 29, 30, 31, 32, 33, 34, 35, 36] rfl (by decide +kernel)) (goodIn_sub (fun _ h => List.mem_cons_of_mem _ (List.mem_append_right _ h)) (by decide +kernel))
set_option maxRecDepth 20000 in
theorem gL_trySetting_X6_setting : GoodIn wsL_trySetting (wsV RL 54 RX6 yX6_setting wsX6_setting) := goodIn_app (goodIn_r _ [3, 4, 5, 6] rfl (by decide +kernel)) ggL_trySetting_X6_setting
theorem dL_trySetting_0 : decode cL_trySetting 0 = .ok (.aload_n 0, 1) := by decide +kernel
theorem dL_trySetting_1 : decode cL_trySetting 1 = .ok (.iload_n 1, 1) := by decide +kernel
theorem dL_trySetting_2 : decode cL_trySetting 2 = .ok (.invokevirtual 54, 3) := by decide +kernel
theorem dL_trySetting_5 : decode cL_trySetting 5 = .ok (.ireturn, 1) := by decide +kernel
theorem dL_trySetting_6 : decode cL_trySetting 6 = .ok (.astore_n 2, 1) := by decide +kernel
theorem dL_trySetting_7 : decode cL_trySetting 7 = .ok (.ldc 25, 2) := by decide +kernel
theorem dL_trySetting_9 : decode cL_trySetting 9 = .ok (.ireturn, 1) := by decide +kernel
set_option maxRecDepth 20000 in
theorem ggL_tryCome_X6_come : GoodIn wsL_tryCome wsX6_come := goodIn_ca (goodIn_ca (goodIn_r _ [9, 10, 11, 12, 13, 14, 15, 16, 17, 8, 18, 19, 20, 21, 22, 23, 24, 25, 26, 27, 28, 29, 30, 31, 32, 33, 34, 35, 36, 37, 38, 39, 40, 41, 42, 43, 44, 45, 46, 47, 48, 49, 50, 51, 52, 53, 54, 55, 56, 57, 58, 59, 60, 61, 62, 63, 64, 65, 66, 67, 68, 69, 70, 71, 72, 73, 74, 75, 76, 77, 78, 79, 80, 81, 82, 83, 84, 85, 86, 87, 88, 89, 90, 91, 92, 93, 94, 95, 96, 97, 98, 99, 100, 101, 102, 103, 104, 105, 106, 107, 108, 109, 110, 111, 112, 113, 114, 115, 116, 117, 118, 119, 120, 121, 122, 123, 124, 125, 126] rfl (by decide +kernel)) (goodIn_sub (fun _ h => List.mem_cons_of_mem _ (List.mem_append_left _ (List.mem_append_right _ h))) (by decide +kernel))) (goodIn_sub (fun _ h => List.mem_cons_of_mem _ (List.mem_append_right _ h)) (by decide +kernel))
set_option maxRecDepth 20000 in
theorem gL_tryCome_X6_come : GoodIn wsL_tryCome (wsV RL 57 RX6 yX6_come wsX6_come) := goodIn_app (goodIn_r _ [5, 6, 7, 8] rfl (by decide +kernel)) ggL_tryCome_X6_come
theorem dL_tryCome_0 : decode cL_tryCome 0 = .ok (.aload_n 0, 1) := by decide +kernel
theorem dL_tryCome_1 : decode cL_tryCome 1 = .ok (.iload_n 1, 1) := by decide +kernel
theorem dL_tryCome_2 : decode cL_tryCome 2 = .ok (.iload_n 2, 1) := by decide +kernel
theorem dL_tryCome_3 : decode cL_tryCome 3 = .ok (.invokevirtual 57, 3) := by decide +kernel
theorem dL_tryCome_6 : decode cL_tryCome 6 = .ok (.ireturn, 1) := by decide +kernel
theorem dL_tryCome_7 : decode cL_tryCome 7 = .ok (.astore_n 3, 1) := by decide +kernel
theorem dL_tryCome_8 : decode cL_tryCome 8 = .ok (.ldc 25, 2) := by decide +kernel
theorem dL_tryCome_10 : decode cL_tryCome 10 = .ok (.ireturn, 1) := by decide +kernel
theorem dL_tryCome_11 : decode cL_tryCome 11 = .ok (.astore_n 3, 1) := by decide +kernel
theorem dL_tryCome_12 : decode cL_tryCome 12 = .ok (.ldc 18, 2) := by decide +kernel
theorem dL_tryCome_14 : decode cL_tryCome 14 = .ok (.ireturn, 1) := by decide +kernel
set_option maxRecDepth 20000 in
theorem ggL_tryLeave_X6_leave : GoodIn wsL_tryLeave wsX6_leave := goodIn_ca (goodIn_ca (goodIn_r _ [9, 10, 11, 12, 13, 14, 8, 15, 16, 17, 18, 19, 20, 21, 22, 23, 24, 25, 26, 27, 28, 29, 30, 31, 32, 33, 34, 35, 36, 37, 38, 39, 40, 41, 42, 43, 44, 45, 46, 47, 48, 49, 50, 51, 52, 53, 54, 55, 56, 57, 58, 59, 60, 61, 62, 63, 64, 65, 66, 67, 68, 69, 70, 71, 72, 73, 74, 75, 76, 77, 78, 79, 80, 81, 82, 83, 84, 85, 86, 87, 88, 89, 90, 91, 92, 93, 94, 95, 96, 97, 98, 99, 100, 101] rfl (by decide +kernel)) (goodIn_sub (fun _ h => List.mem_cons_of_mem _ (List.mem_append_left _ (List.mem_append_right _ h))) (by decide +kernel))) (goodIn_sub (fun _ h => List.mem_cons_of_mem _ (List.mem_append_right _ h)) (by decide +kernel))
set_option maxRecDepth 20000 in
theorem gL_tryLeave_X6_leave : GoodIn wsL_tryLeave (wsV RL 60 RX6 yX6_leave wsX6_leave) := goodIn_app (goodIn_r _ [5, 6, 7, 8] rfl (by decide +kernel)) ggL_tryLeave_X6_leave
theorem dL_tryLeave_0 : decode cL_tryLeave 0 = .ok (.aload_n 0, 1) := by decide +kernel
theorem dL_tryLeave_1 : decode cL_tryLeave 1 = .ok (.iload_n 1, 1) := by decide +kernel
theorem dL_tryLeave_2 : decode cL_tryLeave 2 = .ok (.invokevirtual 60, 3) := by decide +kernel
theorem dL_tryLeave_5 : decode cL_tryLeave 5 = .ok (.ireturn, 1) := by decide +kernel
theorem dL_tryLeave_6 : decode cL_tryLeave 6 = .ok (.astore_n 2, 1) := by decide +kernel
theorem dL_tryLeave_7 : decode cL_tryLeave 7 = .ok (.ldc 15, 2) := by decide +kernel
theorem dL_tryLeave_9 : decode cL_tryLeave 9 = .ok (.ireturn, 1) := by decide +kernel
theorem dL_tryLeave_10 : decode cL_tryLeave 10 = .ok (.astore_n 2, 1) := by decide +kernel
theorem dL_tryLeave_11 : decode cL_tryLeave 11 = .ok (.ldc 18, 2) := by decide +kernel
theorem dL_tryLeave_13 : decode cL_tryLeave 13 = .ok (.ireturn, 1) := by decide +kernel
set_option maxRecDepth 20000 in
theorem ggL_tryTow_X6_tow : GoodIn wsL_tryTow wsX6_tow := goodIn_ca (goodIn_ca (goodIn_r _ [9, 10, 11, 12, 13, 14, 8, 15, 16, 17, 18, 19, 20, 21, 22, 23, 24, 25, 26, 27, 28, 29, 30, 31, 32, 33, 34, 35, 36, 37, 38, 39, 40, 41, 42, 43, 44, 45, 46, 47, 48, 49, 50, 51, 52, 53, 54, 55, 56, 57, 58, 59, 60, 61, 62, 63, 64, 65, 66, 67, 68, 69, 70, 71, 72, 73, 74, 75, 76, 77, 78, 79, 80, 81, 82, 83, 84, 85, 86, 87, 88, 89, 90, 91, 92, 93, 94, 95, 96, 97, 98, 99, 100, 101, 102, 103, 104] rfl (by decide +kernel)) (goodIn_sub (fun _ h => List.mem_cons_of_mem _ (List.mem_append_left _ (List.mem_append_right _ h))) (by decide +kernel))) (goodIn_sub (fun _ h => List.mem_cons_of_mem _ (List.mem_append_right _ h)) (by decide +kernel))
set_option maxRecDepth 20000 in
theorem gL_tryTow_X6_tow : GoodIn wsL_tryTow (wsV RL 63 RX6 yX6_tow wsX6_tow) := goodIn_app (goodIn_r _ [5, 6, 7, 8] rfl (by decide +kernel)) ggL_tryTow_X6_tow
theorem dL_tryTow_0 : decode cL_tryTow 0 = .ok (.aload_n 0, 1) := by decide +kernel
theorem dL_tryTow_1 : decode cL_tryTow 1 = .ok (.iload_n 1, 1) := by decide +kernel
theorem dL_tryTow_2 : decode cL_tryTow 2 = .ok (.invokevirtual 63, 3) := by decide +kernel
theorem dL_tryTow_5 : decode cL_tryTow 5 = .ok (.ireturn, 1) := by decide +kernel
theorem dL_tryTow_6 : decode cL_tryTow 6 = .ok (.astore_n 2, 1) := by decide +kernel
theorem dL_tryTow_7 : decode cL_tryTow 7 = .ok (.ldc 15, 2) := by decide +kernel
theorem dL_tryTow_9 : decode cL_tryTow 9 = .ok (.ireturn, 1) := by decide +kernel
theorem dL_tryTow_10 : decode cL_tryTow 10 = .ok (.astore_n 2, 1) := by decide +kernel
theorem dL_tryTow_11 : decode cL_tryTow 11 = .ok (.ldc 18, 2) := by decide +kernel
theorem dL_tryTow_13 : decode cL_tryTow 13 = .ok (.ireturn, 1) := by decide +kernel
set_option maxRecDepth 20000 in
theorem ggL_tryMove_X6_move : GoodIn wsL_tryMove wsX6_move := goodIn_ca (goodIn_ca (goodIn_r _ [9, 10, 11, 12, 13, 14, 15, 16, 8, 17, 18, 19, 20, 21, 22, 23, 24, 25, 26, 27, 28, 29, 30, 31, 32, 33, 34, 35, 36, 37, 38, 39, 40, 41, 42, 43, 44, 45, 46, 47, 48, 49, 50, 51, 52, 53, 54, 55, 56, 57, 58, 59, 60, 61, 62, 63, 64, 65, 66, 67, 68, 69, 70, 71, 72, 73, 74, 75, 76, 77, 78, 79, 80, 81, 82, 83, 84, 85, 86, 87, 88, 89, 90, 91, 92, 93, 94, 95, 96, 97, 98, 99, 100, 101, 102, 103, 104, 105, 106, 107, 108, 109, 110, 111] rfl (by decide +kernel)) (goodIn_sub (fun _ h => List.mem_cons_of_mem _ (List.mem_append_left _ (List.mem_append_right _ h))) (by decide +kernel))) (goodIn_sub (fun _ h => List.mem_cons_of_mem _ (List.mem_append_right _ h)) (by decide +kernel))
set_option maxRecDepth 20000 in
theorem gL_tryMove_X6_move : GoodIn wsL_tryMove (wsV RL 66 RX6 yX6_move wsX6_move) := goodIn_app (goodIn_r _ [5, 6, 7, 8] rfl (by decide +kernel)) ggL_tryMove_X6_move
theorem dL_tryMove_0 : decode cL_tryMove 0 = .ok (.aload_n 0, 1) := by decide +kernel
theorem dL_tryMove_1 : decode cL_tryMove 1 = .ok (.iload_n 1, 1) := by decide +kernel
theorem dL_tryMove_2 : decode cL_tryMove 2 = .ok (.iload_n 2, 1) := by decide +kernel
theorem dL_tryMove_3 : decode cL_tryMove 3 = .ok (.invokevirtual 66, 3) := by decide +kernel
theorem dL_tryMove_6 : decode cL_tryMove 6 = .ok (.ireturn, 1) := by decide +kernel
theorem dL_tryMove_7 : decode cL_tryMove 7 = .ok (.astore_n 3, 1) := by decide +kernel
theorem dL_tryMove_8 : decode cL_tryMove 8 = .ok (.ldc 15, 2) := by decide +kernel
theorem dL_tryMove_10 : decode cL_tryMove 10 = .ok (.ireturn, 1) := by decide +kernel
theorem dL_tryMove_11 : decode cL_tryMove 11 = .ok (.astore_n 3, 1) := by decide +kernel
theorem dL_tryMove_12 : decode cL_tryMove 12 = .ok (.ldc 18, 2) := by decide +kernel
theorem dL_tryMove_14 : decode cL_tryMove 14 = .ok (.ireturn, 1) := by decide +kernel
set_option maxRecDepth 20000 in
theorem ggL_tryMinutes_X6_minutes : GoodIn wsL_tryMinutes wsX6_minutes := goodIn_ca (goodIn_r _ [7, 8, 9, 10, 11, 12, 13, 6, 14, 15, 16, 17, 18, 19, 20, 21, 22, 23, 24, 25, 26, 27, 28, 29, 30, 31, 32, 33, 34, 35, 36, 37, 38, 39, 40, 41, 42, 43, 44, 45, 46, 47, 48, 49, 50, 51, 52, 53, 54, 55, 56, 57, 58, 59, 60, 61, 62, 63, 64, 65, 66, 67, 68, 69, 70, 71, 72, 73, 74, 75, 76, 77, 78, 79, 80, 81, 82, 83, 84, 85, 86, 87, 88, 89, 90, 91, 92, 93, 94, 95, 96, 97, 98, 99, 100, 101, 102, 103, 104, 105, 106, 107, 108, 109, 110, 111, 112, 113, 114, 115, 116, 117, 118, 119, 120, 121, 122, 123, 124, 125, 126, 127, 128, 129, 130, 131, 132, 133, 134, 135, 136, 137, 138, 139, 140] rfl (by decide +kernel)) (goodIn_sub (fun _ h => List.mem_cons_of_mem _ (List.mem_append_right _ h)) (by decide +kernel))
set_option maxRecDepth 20000 in
theorem gL_tryMinutes_X6_minutes : GoodIn wsL_tryMinutes (wsV RL 69 RX6 yX6_minutes wsX6_minutes) := goodIn_app (goodIn_r _ [3, 4, 5, 6] rfl (by decide +kernel)) ggL_tryMinutes_X6_minutes
theorem dL_tryMinutes_0 : decode cL_tryMinutes 0 = .ok (.aload_n 0, 1) := by decide +kernel
theorem dL_tryMinutes_1 : decode cL_tryMinutes 1 = .ok (.iload_n 1, 1) := by decide +kernel
theorem dL_tryMinutes_2 : decode cL_tryMinutes 2 = .ok (.invokevirtual 69, 3) := by decide +kernel
theorem dL_tryMinutes_5 : decode cL_tryMinutes 5 = .ok (.ireturn, 1) := by decide +kernel
theorem dL_tryMinutes_6 : decode cL_tryMinutes 6 = .ok (.astore_n 2, 1) := by decide +kernel
theorem dL_tryMinutes_7 : decode cL_tryMinutes 7 = .ok (.ldc 25, 2) := by decide +kernel
theorem dL_tryMinutes_9 : decode cL_tryMinutes 9 = .ok (.ireturn, 1) := by decide +kernel
set_option maxRecDepth 20000 in
theorem ggL_tryLay_X6_set : GoodIn wsL_tryLay wsX6_set := goodIn_ca (goodIn_r _ [7, 8, 9, 10, 11, 12, 13, 6, 14, 15, 16, 17, 18, 19, 20, 21, 22, 23, 24, 25, 26, 27, 28, 29, 30, 31, 32, 33, 34, 35, 36, 37, 38, 39, 40, 41, 42, 43, 44, 45, 46, 47, 48, 49, 50, 51, 52, 53, 54, 55, 56, 57, 58, 59, 60, 61, 62, 63, 64, 65, 66, 67, 68, 69, 70, 71, 72, 73, 74, 75, 76] rfl (by decide +kernel)) (goodIn_sub (fun _ h => List.mem_cons_of_mem _ (List.mem_append_right _ h)) (by decide +kernel))
set_option maxRecDepth 20000 in
theorem gL_tryLay_X6_set : GoodIn wsL_tryLay (wsV RL 72 RX6 yX6_set wsX6_set) := goodIn_app (goodIn_r _ [3, 4, 5, 6] rfl (by decide +kernel)) ggL_tryLay_X6_set
theorem dL_tryLay_0 : decode cL_tryLay 0 = .ok (.aload_n 0, 1) := by decide +kernel
theorem dL_tryLay_1 : decode cL_tryLay 1 = .ok (.iload_n 1, 1) := by decide +kernel
theorem dL_tryLay_2 : decode cL_tryLay 2 = .ok (.iload_n 2, 1) := by decide +kernel
theorem dL_tryLay_3 : decode cL_tryLay 3 = .ok (.invokevirtual 72, 3) := by decide +kernel
theorem dL_tryLay_6 : decode cL_tryLay 6 = .ok (.ireturn, 1) := by decide +kernel
theorem dL_tryLay_7 : decode cL_tryLay 7 = .ok (.astore_n 3, 1) := by decide +kernel
theorem dL_tryLay_8 : decode cL_tryLay 8 = .ok (.ldc 25, 2) := by decide +kernel
theorem dL_tryLay_10 : decode cL_tryLay 10 = .ok (.ireturn, 1) := by decide +kernel
set_option maxRecDepth 20000 in
theorem ggL_tryUndo_X6_undo : GoodIn wsL_tryUndo wsX6_undo := goodIn_ca (goodIn_r _ [7, 8, 9, 10, 11, 12, 13, 14, 15, 16, 17, 18, 19, 20, 21, 22, 23, 6, 24, 25, 26, 27, 28, 29, 30, 31, 32, 33, 34, 35, 36, 37, 38, 39, 40, 41, 42, 43, 44, 45, 46, 47, 48, 49, 50, 51, 52, 53, 54, 55, 56, 57, 58, 59, 60, 61, 62, 63, 64, 65, 66, 67, 68, 69, 70] rfl (by decide +kernel)) (goodIn_sub (fun _ h => List.mem_cons_of_mem _ (List.mem_append_right _ h)) (by decide +kernel))
set_option maxRecDepth 20000 in
theorem gL_tryUndo_X6_undo : GoodIn wsL_tryUndo (wsV RL 75 RX6 yX6_undo wsX6_undo) := goodIn_app (goodIn_r _ [3, 4, 5, 6] rfl (by decide +kernel)) ggL_tryUndo_X6_undo
theorem dL_tryUndo_0 : decode cL_tryUndo 0 = .ok (.aload_n 0, 1) := by decide +kernel
theorem dL_tryUndo_1 : decode cL_tryUndo 1 = .ok (.invokevirtual 75, 3) := by decide +kernel
theorem dL_tryUndo_4 : decode cL_tryUndo 4 = .ok (.ireturn, 1) := by decide +kernel
theorem dL_tryUndo_5 : decode cL_tryUndo 5 = .ok (.astore_n 1, 1) := by decide +kernel
theorem dL_tryUndo_6 : decode cL_tryUndo 6 = .ok (.ldc 18, 2) := by decide +kernel
theorem dL_tryUndo_8 : decode cL_tryUndo 8 = .ok (.ireturn, 1) := by decide +kernel
set_option maxRecDepth 20000 in
theorem ggL_tryWhy_X6_why : GoodIn wsL_tryWhy wsX6_why := goodIn_ca (goodIn_r _ [7, 8, 9, 10, 6, 11, 12, 13, 14, 15, 16, 17, 18, 19, 20, 21, 22, 23, 24, 25, 26, 27, 28, 29, 30, 31, 32, 33, 34, 35, 36, 37, 38, 39, 40, 41, 42, 43, 44, 45] rfl (by decide +kernel)) (goodIn_sub (fun _ h => List.mem_cons_of_mem _ (List.mem_append_right _ h)) (by decide +kernel))
set_option maxRecDepth 20000 in
theorem gL_tryWhy_X6_why : GoodIn wsL_tryWhy (wsV RL 78 RX6 yX6_why wsX6_why) := goodIn_app (goodIn_r _ [3, 4, 5, 6] rfl (by decide +kernel)) ggL_tryWhy_X6_why
theorem dL_tryWhy_0 : decode cL_tryWhy 0 = .ok (.aload_n 0, 1) := by decide +kernel
theorem dL_tryWhy_1 : decode cL_tryWhy 1 = .ok (.iload_n 1, 1) := by decide +kernel
theorem dL_tryWhy_2 : decode cL_tryWhy 2 = .ok (.invokevirtual 78, 3) := by decide +kernel
theorem dL_tryWhy_5 : decode cL_tryWhy 5 = .ok (.ireturn, 1) := by decide +kernel
theorem dL_tryWhy_6 : decode cL_tryWhy 6 = .ok (.astore_n 2, 1) := by decide +kernel
theorem dL_tryWhy_7 : decode cL_tryWhy 7 = .ok (.ldc 25, 2) := by decide +kernel
theorem dL_tryWhy_9 : decode cL_tryWhy 9 = .ok (.ireturn, 1) := by decide +kernel
set_option maxRecDepth 20000 in
theorem ggL_tryPlace_X6_place : GoodIn wsL_tryPlace wsX6_place := goodIn_ca (goodIn_r _ [7, 8, 9, 10, 6, 11, 12, 13, 14, 15, 16, 17, 18, 19, 20, 21, 22, 23, 24, 25, 26, 27, 28, 29, 30, 31, 32, 33, 34, 35, 36, 37, 38, 39, 40, 41, 42, 43, 44, 45, 46, 47, 48, 49, 50, 51, 52, 53, 54, 55, 56, 57, 58, 59] rfl (by decide +kernel)) (goodIn_sub (fun _ h => List.mem_cons_of_mem _ (List.mem_append_right _ h)) (by decide +kernel))
set_option maxRecDepth 20000 in
theorem gL_tryPlace_X6_place : GoodIn wsL_tryPlace (wsV RL 81 RX6 yX6_place wsX6_place) := goodIn_app (goodIn_r _ [3, 4, 5, 6] rfl (by decide +kernel)) ggL_tryPlace_X6_place
theorem dL_tryPlace_0 : decode cL_tryPlace 0 = .ok (.aload_n 0, 1) := by decide +kernel
theorem dL_tryPlace_1 : decode cL_tryPlace 1 = .ok (.iload_n 1, 1) := by decide +kernel
theorem dL_tryPlace_2 : decode cL_tryPlace 2 = .ok (.invokevirtual 81, 3) := by decide +kernel
theorem dL_tryPlace_5 : decode cL_tryPlace 5 = .ok (.ireturn, 1) := by decide +kernel
theorem dL_tryPlace_6 : decode cL_tryPlace 6 = .ok (.astore_n 2, 1) := by decide +kernel
theorem dL_tryPlace_7 : decode cL_tryPlace 7 = .ok (.ldc 25, 2) := by decide +kernel
theorem dL_tryPlace_9 : decode cL_tryPlace 9 = .ok (.ireturn, 1) := by decide +kernel
set_option maxRecDepth 20000 in
theorem ggL_tryFits_X6_fits : GoodIn wsL_tryFits wsX6_fits := goodIn_ca (goodIn_r _ [7, 8, 9, 10, 11, 6, 12, 13, 14, 15, 16, 17, 18, 19, 20, 21, 22, 23, 24, 25, 26, 27, 28, 29, 30, 31, 32, 33, 34, 35, 36, 37, 38, 39, 40, 41, 42, 43, 44, 45, 46, 47, 48, 49, 50, 51, 52, 53, 54, 55, 56, 57, 58, 59, 60, 61, 62, 63, 64, 65, 66, 67, 68, 69, 70, 71, 72, 73, 74, 75, 76, 77, 78, 79, 80, 81, 82, 83, 84, 85, 86, 87, 88, 89, 90, 91, 92, 93, 94, 95, 96, 97, 98, 99, 100, 101, 102, 103] rfl (by decide +kernel)) (goodIn_sub (fun _ h => List.mem_cons_of_mem _ (List.mem_append_right _ h)) (by decide +kernel))
set_option maxRecDepth 20000 in
theorem gL_tryFits_X6_fits : GoodIn wsL_tryFits (wsV RL 84 RX6 yX6_fits wsX6_fits) := goodIn_app (goodIn_r _ [3, 4, 5, 6] rfl (by decide +kernel)) ggL_tryFits_X6_fits
theorem dL_tryFits_0 : decode cL_tryFits 0 = .ok (.aload_n 0, 1) := by decide +kernel
theorem dL_tryFits_1 : decode cL_tryFits 1 = .ok (.iload_n 1, 1) := by decide +kernel
theorem dL_tryFits_2 : decode cL_tryFits 2 = .ok (.iload_n 2, 1) := by decide +kernel
theorem dL_tryFits_3 : decode cL_tryFits 3 = .ok (.invokevirtual 84, 3) := by decide +kernel
theorem dL_tryFits_6 : decode cL_tryFits 6 = .ok (.ireturn, 1) := by decide +kernel
theorem dL_tryFits_7 : decode cL_tryFits 7 = .ok (.astore_n 3, 1) := by decide +kernel
theorem dL_tryFits_8 : decode cL_tryFits 8 = .ok (.ldc 25, 2) := by decide +kernel
theorem dL_tryFits_10 : decode cL_tryFits 10 = .ok (.ireturn, 1) := by decide +kernel
set_option maxRecDepth 20000 in
theorem ggL_tryWhen_X6_gapIn : GoodIn wsL_tryWhen wsX6_gapIn := goodIn_ca (goodIn_r _ [7, 8, 9, 10, 11, 6, 12, 13, 14, 15, 16, 17, 18, 19, 20, 21, 22, 23, 24, 25, 26, 27, 28, 29, 30, 31, 32, 33, 34, 35, 36, 37, 38, 39, 40, 41, 42, 43, 44, 45, 46, 47, 48, 49, 50, 51, 52, 53, 54, 55, 56, 57, 58, 59, 60, 61, 62, 63, 64, 65, 66, 67, 68, 69, 70, 71, 72, 73, 74, 75, 76, 77, 78, 79, 80, 81, 82, 83, 84, 85, 86, 87, 88, 89, 90, 91, 92, 93, 94, 95, 96, 97, 98, 99, 100, 101, 102, 103, 104, 105, 106, 107, 108, 109, 110, 111, 112, 113, 114, 115, 116, 117, 118, 119, 120, 121, 122, 123, 124, 125, 126, 127, 128, 129, 130, 131, 132, 133, 134, 135, 136, 137, 138, 139, 140] rfl (by decide +kernel)) (goodIn_sub (fun _ h => List.mem_cons_of_mem _ (List.mem_append_right _ h)) (by decide +kernel))
set_option maxRecDepth 20000 in
theorem gL_tryWhen_X6_gapIn : GoodIn wsL_tryWhen (wsV RL 87 RX6 yX6_gapIn wsX6_gapIn) := goodIn_app (goodIn_r _ [3, 4, 5, 6] rfl (by decide +kernel)) ggL_tryWhen_X6_gapIn
theorem dL_tryWhen_0 : decode cL_tryWhen 0 = .ok (.aload_n 0, 1) := by decide +kernel
theorem dL_tryWhen_1 : decode cL_tryWhen 1 = .ok (.iload_n 1, 1) := by decide +kernel
theorem dL_tryWhen_2 : decode cL_tryWhen 2 = .ok (.invokevirtual 87, 3) := by decide +kernel
theorem dL_tryWhen_5 : decode cL_tryWhen 5 = .ok (.ireturn, 1) := by decide +kernel
theorem dL_tryWhen_6 : decode cL_tryWhen 6 = .ok (.astore_n 2, 1) := by decide +kernel
theorem dL_tryWhen_7 : decode cL_tryWhen 7 = .ok (.ldc 25, 2) := by decide +kernel
theorem dL_tryWhen_9 : decode cL_tryWhen 9 = .ok (.ireturn, 1) := by decide +kernel
set_option maxRecDepth 20000 in
theorem ggL_tryMover_X6_mover : GoodIn wsL_tryMover wsX6_mover := goodIn_ca (goodIn_r _ [7, 8, 9, 10, 6, 11, 12, 13, 14, 15, 16, 17, 18, 19, 20, 21, 22, 23, 24, 25, 26, 27, 28, 29, 30, 31, 32, 33, 34, 35, 36, 37, 38, 39, 40, 41, 42, 43, 44, 45, 46, 47, 48, 49, 50, 51, 52, 53, 54, 55, 56, 57, 58, 59, 60, 61, 62, 63, 64, 65, 66, 67, 68, 69, 70, 71, 72, 73, 74, 75, 76, 77, 78, 79, 80, 81, 82, 83, 84] rfl (by decide +kernel)) (goodIn_sub (fun _ h => List.mem_cons_of_mem _ (List.mem_append_right _ h)) (by decide +kernel))
set_option maxRecDepth 20000 in
theorem gL_tryMover_X6_mover : GoodIn wsL_tryMover (wsV RL 90 RX6 yX6_mover wsX6_mover) := goodIn_app (goodIn_r _ [3, 4, 5, 6] rfl (by decide +kernel)) ggL_tryMover_X6_mover
theorem dL_tryMover_0 : decode cL_tryMover 0 = .ok (.aload_n 0, 1) := by decide +kernel
theorem dL_tryMover_1 : decode cL_tryMover 1 = .ok (.iload_n 1, 1) := by decide +kernel
theorem dL_tryMover_2 : decode cL_tryMover 2 = .ok (.iload_n 2, 1) := by decide +kernel
theorem dL_tryMover_3 : decode cL_tryMover 3 = .ok (.invokevirtual 90, 3) := by decide +kernel
theorem dL_tryMover_6 : decode cL_tryMover 6 = .ok (.ireturn, 1) := by decide +kernel
theorem dL_tryMover_7 : decode cL_tryMover 7 = .ok (.astore_n 3, 1) := by decide +kernel
theorem dL_tryMover_8 : decode cL_tryMover 8 = .ok (.ldc 25, 2) := by decide +kernel
theorem dL_tryMover_10 : decode cL_tryMover 10 = .ok (.ireturn, 1) := by decide +kernel
set_option maxRecDepth 20000 in
theorem ggL_tryKeep_X6_save : GoodIn wsL_tryKeep wsX6_save := goodIn_ca (goodIn_r _ [7, 8, 9, 10, 11, 6, 12, 13, 14, 15, 16, 17, 18, 19, 20, 21, 22, 23, 24, 25, 26, 27, 28, 29, 30, 31, 32, 33, 34, 35, 36, 37, 38, 39, 40, 41, 42, 43, 44, 45, 46, 47, 48, 49, 50, 51, 52, 53, 54, 55, 56, 57, 58, 59, 60, 61, 62, 63, 64, 65, 66, 67] rfl (by decide +kernel)) (goodIn_sub (fun _ h => List.mem_cons_of_mem _ (List.mem_append_right _ h)) (by decide +kernel))
set_option maxRecDepth 20000 in
theorem gL_tryKeep_X6_save : GoodIn wsL_tryKeep (wsV RL 93 RX6 yX6_save wsX6_save) := goodIn_app (goodIn_r _ [3, 4, 5, 6] rfl (by decide +kernel)) ggL_tryKeep_X6_save
theorem dL_tryKeep_0 : decode cL_tryKeep 0 = .ok (.aload_n 0, 1) := by decide +kernel
theorem dL_tryKeep_1 : decode cL_tryKeep 1 = .ok (.iload_n 1, 1) := by decide +kernel
theorem dL_tryKeep_2 : decode cL_tryKeep 2 = .ok (.invokevirtual 93, 3) := by decide +kernel
theorem dL_tryKeep_5 : decode cL_tryKeep 5 = .ok (.ireturn, 1) := by decide +kernel
theorem dL_tryKeep_6 : decode cL_tryKeep 6 = .ok (.astore_n 2, 1) := by decide +kernel
theorem dL_tryKeep_7 : decode cL_tryKeep 7 = .ok (.ldc 15, 2) := by decide +kernel
theorem dL_tryKeep_9 : decode cL_tryKeep 9 = .ok (.ireturn, 1) := by decide +kernel
set_option maxRecDepth 20000 in
theorem ggL_tryBack_X6_restore : GoodIn wsL_tryBack wsX6_restore := goodIn_ca (goodIn_ca (goodIn_r _ [9, 10, 11, 12, 13, 14, 15, 16, 8, 17, 18, 19, 20, 21, 22, 23, 24, 25, 26, 27, 28, 29, 30, 31, 32, 33, 34, 35, 36, 37, 38, 39, 40, 41, 42, 43, 44, 45, 46, 47, 48, 49, 50, 51, 52, 53, 54, 55, 56, 57, 58, 59, 60, 61, 62, 63, 64, 65, 66, 67, 68, 69, 70, 71, 72, 73, 74, 75, 76, 77, 78, 79, 80, 81, 82, 83, 84] rfl (by decide +kernel)) (goodIn_sub (fun _ h => List.mem_cons_of_mem _ (List.mem_append_left _ (List.mem_append_right _ h))) (by decide +kernel))) (goodIn_sub (fun _ h => List.mem_cons_of_mem _ (List.mem_append_right _ h)) (by decide +kernel))
set_option maxRecDepth 20000 in
theorem gL_tryBack_X6_restore : GoodIn wsL_tryBack (wsV RL 96 RX6 yX6_restore wsX6_restore) := goodIn_app (goodIn_r _ [5, 6, 7, 8] rfl (by decide +kernel)) ggL_tryBack_X6_restore
theorem dL_tryBack_0 : decode cL_tryBack 0 = .ok (.aload_n 0, 1) := by decide +kernel
theorem dL_tryBack_1 : decode cL_tryBack 1 = .ok (.iload_n 1, 1) := by decide +kernel
theorem dL_tryBack_2 : decode cL_tryBack 2 = .ok (.invokevirtual 96, 3) := by decide +kernel
theorem dL_tryBack_5 : decode cL_tryBack 5 = .ok (.ireturn, 1) := by decide +kernel
theorem dL_tryBack_6 : decode cL_tryBack 6 = .ok (.astore_n 2, 1) := by decide +kernel
theorem dL_tryBack_7 : decode cL_tryBack 7 = .ok (.ldc 15, 2) := by decide +kernel
theorem dL_tryBack_9 : decode cL_tryBack 9 = .ok (.ireturn, 1) := by decide +kernel
theorem dL_tryBack_10 : decode cL_tryBack 10 = .ok (.astore_n 2, 1) := by decide +kernel
theorem dL_tryBack_11 : decode cL_tryBack 11 = .ok (.ldc 18, 2) := by decide +kernel
theorem dL_tryBack_13 : decode cL_tryBack 13 = .ok (.ireturn, 1) := by decide +kernel
set_option maxRecDepth 20000 in
theorem ggL_call_L_tryAppend : GoodIn wsL_call wsL_tryAppend := goodIn_ca (goodIn_ca (goodIn_r _ [4, 5, 6, 7, 8, 9, 10, 11, 12, 13, 14, 15, 16, 17, 18, 19, 20, 21, 22, 23, 24, 25, 26, 27, 474, 475, 476, 477, 478, 479, 480] rfl (by decide +kernel)) (goodIn_sub (fun _ h => List.mem_cons_of_mem _ (List.mem_append_left _ (List.mem_append_left _ (List.mem_append_right _ h)))) (by decide +kernel))) (goodIn_sub (fun _ h => List.mem_cons_of_mem _ (List.mem_append_left _ (List.mem_append_right _ h))) (by decide +kernel))
set_option maxRecDepth 20000 in
theorem gL_call_L_tryAppend : GoodIn wsL_call (va_wsS RL 99 yL_tryAppend wsL_tryAppend) := goodIn_app (goodIn_r _ [1, 2, 3] rfl (by decide +kernel)) ggL_call_L_tryAppend
set_option maxRecDepth 20000 in
theorem ggL_call_L_tryLoad : GoodIn wsL_call wsL_tryLoad := goodIn_ca (goodIn_r _ [30, 6, 8, 31, 32, 33, 12, 34, 16, 17, 18, 35, 36, 37, 38, 20, 39, 40, 41, 42, 43, 44, 23, 27, 45, 46, 47, 48, 49, 50, 51, 52, 53, 54, 55, 56, 57, 58, 59, 60, 61, 62, 63, 64, 65, 66, 67, 68, 69, 70, 71, 72, 73, 74, 75, 76, 77, 78, 79, 80, 81, 82, 83, 84, 85, 86, 87, 88, 89, 90, 91, 92, 93, 94, 95, 96, 97, 98, 99, 100, 101, 102, 103, 104, 105, 106, 107, 108, 109, 110, 111, 112, 113, 114, 115, 116, 117, 118, 119, 120, 121, 122, 123, 124, 125, 126, 127, 128, 129, 130, 131, 132, 133, 134, 135, 136, 137, 138, 139, 140, 141, 142, 143, 144, 145, 146, 147, 148, 149, 150, 151, 152, 153, 154, 155, 156, 157, 158, 159, 160, 161, 162, 163, 164, 165, 166, 167, 168, 169, 170, 171, 172, 173, 174, 175, 176, 177, 178, 179, 180, 181, 182, 183, 184, 185, 186, 187, 188, 189, 190, 191, 192, 193, 194, 195, 196, 197, 198, 199, 200, 201, 202, 203, 204, 205, 206, 207, 208, 209, 210, 211, 212, 213, 214, 215, 216, 217, 218, 219, 220, 221, 222, 223, 224, 225, 226, 227, 228, 229, 230, 231, 232, 233, 234, 235, 474, 475, 476, 477, 478, 479, 480, 481, 482, 483, 484, 485, 486, 487, 488, 489, 490, 491, 492, 493, 494, 495, 496, 497, 498, 499] rfl (by decide +kernel)) (goodIn_sub (fun _ h => List.mem_cons_of_mem _ (List.mem_append_left _ (List.mem_append_right _ h))) (by decide +kernel))
set_option maxRecDepth 20000 in
theorem gL_call_L_tryLoad : GoodIn wsL_call (va_wsS RL 105 yL_tryLoad wsL_tryLoad) := goodIn_app (goodIn_r _ [28, 29, 3] rfl (by decide +kernel)) ggL_call_L_tryLoad
set_option maxRecDepth 20000 in
theorem ggL_call_L_tryAbout : GoodIn wsL_call wsL_tryAbout := goodIn_ca (goodIn_r _ [238, 5, 7, 239, 240, 241, 12, 242, 14, 15, 35, 243, 77, 244, 245, 81, 147, 130, 131, 246, 247, 248, 95, 249, 250, 251, 139, 140, 141, 80, 252, 253, 254, 149, 474, 475, 476, 477, 478, 481, 482, 483, 484, 485, 486, 487, 488, 489, 490, 491, 492, 493, 494] rfl (by decide +kernel)) (goodIn_sub (fun _ h => List.mem_cons_of_mem _ (List.mem_append_left _ (List.mem_append_left _ (List.mem_append_right _ h)))) (by decide +kernel))
set_option maxRecDepth 20000 in
theorem gL_call_L_tryAbout : GoodIn wsL_call (va_wsS RL 109 yL_tryAbout wsL_tryAbout) := goodIn_app (goodIn_r _ [236, 237, 3] rfl (by decide +kernel)) ggL_call_L_tryAbout
set_option maxRecDepth 20000 in
theorem ggL_call_L_tryCar : GoodIn wsL_call wsL_tryCar := goodIn_ca (goodIn_ca (goodIn_r _ [257, 258, 5, 259, 7, 260, 261, 262, 12, 263, 14, 15, 35, 264, 265, 266, 267, 268, 269, 195, 77, 196, 197, 81, 270, 130, 131, 191, 192, 193, 147, 194, 224, 225, 226, 146, 149, 474, 475, 476, 477, 478, 481, 482, 483, 484, 485, 486, 487, 488, 489, 490, 491, 492, 493, 494] rfl (by decide +kernel)) (goodIn_sub (fun _ h => List.mem_cons_of_mem _ (List.mem_append_left _ (List.mem_append_left _ (List.mem_append_right _ h)))) (by decide +kernel))) (goodIn_sub (fun _ h => List.mem_cons_of_mem _ (List.mem_append_right _ h)) (by decide +kernel))
set_option maxRecDepth 20000 in
theorem gL_call_L_tryCar : GoodIn wsL_call (va_wsS RL 112 yL_tryCar wsL_tryCar) := goodIn_app (goodIn_r _ [255, 256, 3] rfl (by decide +kernel)) ggL_call_L_tryCar
set_option maxRecDepth 20000 in
theorem ggL_call_L_tryAt : GoodIn wsL_call wsL_tryAt := goodIn_ca (goodIn_r _ [273, 258, 259, 274, 275, 276, 12, 277, 35, 278, 279, 280, 268, 269, 281, 124, 125, 270, 130, 131, 474, 475, 476, 477, 478, 481, 482, 483, 484, 485, 486, 487, 488, 489, 490, 491, 492, 493, 494] rfl (by decide +kernel)) (goodIn_sub (fun _ h => List.mem_cons_of_mem _ (List.mem_append_right _ h)) (by decide +kernel))
set_option maxRecDepth 20000 in
theorem gL_call_L_tryAt : GoodIn wsL_call (va_wsS RL 116 yL_tryAt wsL_tryAt) := goodIn_app (goodIn_r _ [271, 272, 3] rfl (by decide +kernel)) ggL_call_L_tryAt
set_option maxRecDepth 20000 in
theorem ggL_call_L_tryGap : GoodIn wsL_call wsL_tryGap := goodIn_ca (goodIn_ca (goodIn_r _ [284, 258, 5, 259, 7, 285, 286, 287, 12, 288, 268, 269, 35, 289, 77, 290, 291, 95, 292, 293, 294, 14, 15, 270, 130, 131, 474, 475, 476, 477, 478, 481, 482, 483, 484, 485, 486, 487, 488, 489, 490, 491, 492, 493, 494] rfl (by decide +kernel)) (goodIn_sub (fun _ h => List.mem_cons_of_mem _ (List.mem_append_right _ h)) (by decide +kernel))) (goodIn_sub (fun _ h => List.mem_cons_of_mem _ (List.mem_append_left _ (List.mem_append_left _ (List.mem_append_right _ h)))) (by decide +kernel))
set_option maxRecDepth 20000 in
theorem gL_call_L_tryGap : GoodIn wsL_call (va_wsS RL 119 yL_tryGap wsL_tryGap) := goodIn_app (goodIn_r _ [282, 283, 3] rfl (by decide +kernel)) ggL_call_L_tryGap
set_option maxRecDepth 20000 in
theorem ggL_call_L_trySetting : GoodIn wsL_call wsL_trySetting := goodIn_ca (goodIn_r _ [297, 5, 7, 298, 299, 300, 12, 301, 14, 15, 35, 211, 77, 212, 213, 84, 85, 86, 474, 475, 476, 477, 478, 481, 482, 483, 484, 485, 486, 487, 488, 489, 490, 491, 492, 493, 494] rfl (by decide +kernel)) (goodIn_sub (fun _ h => List.mem_cons_of_mem _ (List.mem_append_left _ (List.mem_append_left _ (List.mem_append_right _ h)))) (by decide +kernel))
set_option maxRecDepth 20000 in
theorem gL_call_L_trySetting : GoodIn wsL_call (va_wsS RL 122 yL_trySetting wsL_trySetting) := goodIn_app (goodIn_r _ [295, 296, 3] rfl (by decide +kernel)) ggL_call_L_trySetting
set_option maxRecDepth 20000 in
theorem ggL_call_L_tryCome : GoodIn wsL_call wsL_tryCome := goodIn_ca (goodIn_ca (goodIn_r _ [304, 5, 6, 7, 8, 305, 306, 307, 12, 308, 14, 15, 16, 17, 35, 36, 309, 310, 311, 312, 151, 152, 313, 153, 154, 156, 77, 157, 158, 81, 314, 97, 315, 316, 100, 317, 318, 319, 320, 321, 322, 323, 80, 95, 145, 146, 147, 148, 149, 150, 82, 83, 84, 85, 86, 324, 325, 326, 327, 328, 329, 142, 143, 144, 155, 136, 137, 159, 160, 161, 162, 130, 131, 163, 164, 165, 166, 167, 168, 169, 170, 171, 172, 173, 174, 175, 176, 177, 178, 179, 180, 181, 182, 183, 184, 185, 186, 132, 133, 134, 135, 91, 92, 93, 94, 474, 475, 476, 477, 478, 481, 482, 483, 484, 485, 486, 487, 488, 489, 490, 491, 492, 493, 494, 495, 496, 497] rfl (by decide +kernel)) (goodIn_sub (fun _ h => List.mem_cons_of_mem _ (List.mem_append_left _ (List.mem_append_left _ (List.mem_append_right _ h)))) (by decide +kernel))) (goodIn_sub (fun _ h => List.mem_cons_of_mem _ (List.mem_append_left _ (List.mem_append_right _ h))) (by decide +kernel))
set_option maxRecDepth 20000 in
theorem gL_call_L_tryCome : GoodIn wsL_call (va_wsS RL 125 yL_tryCome wsL_tryCome) := goodIn_app (goodIn_r _ [302, 303, 3] rfl (by decide +kernel)) ggL_call_L_tryCome
set_option maxRecDepth 20000 in
theorem ggL_call_L_tryLeave : GoodIn wsL_call wsL_tryLeave := goodIn_ca (goodIn_ca (goodIn_r _ [332, 258, 6, 259, 8, 333, 334, 335, 12, 336, 36, 35, 264, 265, 266, 267, 268, 269, 195, 77, 196, 197, 81, 337, 338, 339, 340, 16, 17, 191, 192, 193, 147, 194, 130, 131, 314, 97, 315, 316, 100, 317, 318, 319, 320, 321, 322, 323, 80, 95, 145, 146, 148, 149, 150, 82, 83, 84, 85, 86, 324, 325, 326, 327, 328, 329, 187, 188, 189, 190, 132, 133, 134, 135, 136, 137, 91, 92, 93, 94, 474, 475, 476, 477, 478, 481, 482, 483, 484, 485, 486, 487, 488, 489, 490, 491, 492, 493, 494, 495, 496, 497] rfl (by decide +kernel)) (goodIn_sub (fun _ h => List.mem_cons_of_mem _ (List.mem_append_right _ h)) (by decide +kernel))) (goodIn_sub (fun _ h => List.mem_cons_of_mem _ (List.mem_append_left _ (List.mem_append_right _ h))) (by decide +kernel))
set_option maxRecDepth 20000 in
theorem gL_call_L_tryLeave : GoodIn wsL_call (va_wsS RL 128 yL_tryLeave wsL_tryLeave) := goodIn_app (goodIn_r _ [330, 331, 3] rfl (by decide +kernel)) ggL_call_L_tryLeave
set_option maxRecDepth 20000 in
theorem ggL_call_L_tryTow : GoodIn wsL_call wsL_tryTow := goodIn_ca (goodIn_ca (goodIn_r _ [343, 258, 6, 259, 8, 344, 345, 346, 12, 347, 36, 35, 264, 265, 266, 267, 268, 269, 195, 77, 196, 197, 81, 337, 338, 339, 340, 16, 17, 191, 192, 193, 147, 194, 130, 131, 314, 97, 315, 316, 100, 317, 318, 319, 320, 321, 322, 323, 80, 95, 145, 146, 148, 149, 150, 82, 83, 84, 85, 86, 324, 325, 326, 327, 328, 329, 224, 225, 226, 187, 188, 189, 190, 132, 133, 134, 135, 136, 137, 91, 92, 93, 94, 474, 475, 476, 477, 478, 481, 482, 483, 484, 485, 486, 487, 488, 489, 490, 491, 492, 493, 494, 495, 496, 497] rfl (by decide +kernel)) (goodIn_sub (fun _ h => List.mem_cons_of_mem _ (List.mem_append_right _ h)) (by decide +kernel))) (goodIn_sub (fun _ h => List.mem_cons_of_mem _ (List.mem_append_left _ (List.mem_append_right _ h))) (by decide +kernel))
set_option maxRecDepth 20000 in
theorem gL_call_L_tryTow : GoodIn wsL_call (va_wsS RL 131 yL_tryTow wsL_tryTow) := goodIn_app (goodIn_r _ [341, 342, 3] rfl (by decide +kernel)) ggL_call_L_tryTow
set_option maxRecDepth 20000 in
theorem ggL_call_L_tryMove : GoodIn wsL_call wsL_tryMove := goodIn_ca (goodIn_ca (goodIn_r _ [350, 258, 6, 259, 8, 351, 352, 353, 12, 354, 16, 17, 35, 36, 264, 265, 266, 267, 268, 269, 195, 77, 196, 197, 81, 278, 279, 280, 281, 124, 125, 202, 203, 204, 148, 145, 80, 130, 131, 190, 191, 192, 193, 147, 194, 126, 127, 128, 129, 314, 97, 315, 316, 100, 317, 318, 319, 320, 321, 322, 323, 95, 146, 149, 150, 82, 83, 84, 85, 86, 324, 325, 326, 327, 328, 329, 198, 199, 200, 201, 132, 133, 134, 135, 136, 137, 91, 92, 93, 94, 474, 475, 476, 477, 478, 481, 482, 483, 484, 485, 486, 487, 488, 489, 490, 491, 492, 493, 494, 495, 496, 497] rfl (by decide +kernel)) (goodIn_sub (fun _ h => List.mem_cons_of_mem _ (List.mem_append_left _ (List.mem_append_right _ h))) (by decide +kernel))) (goodIn_sub (fun _ h => List.mem_cons_of_mem _ (List.mem_append_right _ h)) (by decide +kernel))
set_option maxRecDepth 20000 in
theorem gL_call_L_tryMove : GoodIn wsL_call (va_wsS RL 134 yL_tryMove wsL_tryMove) := goodIn_app (goodIn_r _ [348, 349, 3] rfl (by decide +kernel)) ggL_call_L_tryMove
set_option maxRecDepth 20000 in
theorem ggL_call_L_tryMinutes : GoodIn wsL_call wsL_tryMinutes := goodIn_ca (goodIn_r _ [357, 5, 7, 358, 359, 360, 12, 361, 14, 15, 36, 35, 362, 217, 218, 314, 97, 315, 316, 100, 317, 318, 319, 320, 321, 77, 322, 323, 80, 95, 145, 146, 147, 148, 149, 150, 81, 82, 83, 84, 85, 86, 324, 325, 326, 327, 328, 329, 214, 215, 216, 219, 220, 221, 222, 190, 191, 192, 193, 194, 195, 196, 197, 130, 131, 136, 137, 223, 224, 225, 226, 227, 187, 188, 189, 132, 133, 134, 135, 91, 92, 93, 94, 228, 229, 230, 231, 159, 160, 161, 162, 163, 164, 165, 166, 167, 168, 169, 170, 171, 172, 173, 174, 175, 176, 177, 178, 179, 180, 181, 182, 183, 184, 185, 186, 232, 233, 234, 235, 474, 475, 476, 477, 478, 495, 496, 497, 481, 482, 483, 484, 485, 486, 487, 488, 489, 490, 491, 492, 493, 494] rfl (by decide +kernel)) (goodIn_sub (fun _ h => List.mem_cons_of_mem _ (List.mem_append_left _ (List.mem_append_left _ (List.mem_append_right _ h)))) (by decide +kernel))
set_option maxRecDepth 20000 in
theorem gL_call_L_tryMinutes : GoodIn wsL_call (va_wsS RL 137 yL_tryMinutes wsL_tryMinutes) := goodIn_app (goodIn_r _ [355, 356, 3] rfl (by decide +kernel)) ggL_call_L_tryMinutes
set_option maxRecDepth 20000 in
theorem ggL_call_L_tryLay : GoodIn wsL_call wsL_tryLay := goodIn_ca (goodIn_r _ [365, 5, 7, 366, 367, 368, 12, 369, 14, 15, 36, 35, 370, 208, 209, 314, 97, 315, 316, 100, 317, 318, 319, 320, 321, 77, 322, 323, 80, 95, 145, 146, 147, 148, 149, 150, 81, 82, 83, 84, 85, 86, 324, 325, 326, 327, 328, 329, 205, 206, 207, 210, 211, 212, 213, 474, 475, 476, 477, 478, 495, 496, 497, 481, 482, 483, 484, 485, 486, 487, 488, 489, 490, 491, 492, 493, 494] rfl (by decide +kernel)) (goodIn_sub (fun _ h => List.mem_cons_of_mem _ (List.mem_append_left _ (List.mem_append_left _ (List.mem_append_right _ h)))) (by decide +kernel))
set_option maxRecDepth 20000 in
theorem gL_call_L_tryLay : GoodIn wsL_call (va_wsS RL 140 yL_tryLay wsL_tryLay) := goodIn_app (goodIn_r _ [363, 364, 3] rfl (by decide +kernel)) ggL_call_L_tryLay
set_option maxRecDepth 20000 in
theorem ggL_call_L_tryUndo : GoodIn wsL_call wsL_tryUndo := goodIn_ca (goodIn_r _ [373, 6, 8, 374, 375, 376, 12, 377, 16, 17, 36, 35, 378, 97, 379, 380, 100, 381, 382, 383, 318, 317, 384, 319, 320, 321, 77, 322, 323, 80, 95, 145, 146, 147, 148, 149, 150, 81, 82, 83, 84, 85, 86, 324, 325, 326, 327, 328, 329, 474, 475, 476, 477, 478, 495, 496, 497, 481, 482, 483, 484, 485, 486, 487, 488, 489, 490, 491, 492, 493, 494] rfl (by decide +kernel)) (goodIn_sub (fun _ h => List.mem_cons_of_mem _ (List.mem_append_left _ (List.mem_append_right _ h))) (by decide +kernel))
set_option maxRecDepth 20000 in
theorem gL_call_L_tryUndo : GoodIn wsL_call (va_wsS RL 143 yL_tryUndo wsL_tryUndo) := goodIn_app (goodIn_r _ [371, 372, 3] rfl (by decide +kernel)) ggL_call_L_tryUndo
set_option maxRecDepth 20000 in
theorem ggL_call_L_tryWhy : GoodIn wsL_call wsL_tryWhy := goodIn_ca (goodIn_r _ [387, 5, 7, 388, 389, 390, 12, 391, 35, 309, 310, 311, 14, 15, 312, 151, 152, 392, 77, 393, 394, 85, 395, 249, 250, 251, 95, 474, 475, 476, 477, 478, 481, 482, 483, 484, 485, 486, 487, 488, 489, 490, 491, 492, 493, 494] rfl (by decide +kernel)) (goodIn_sub (fun _ h => List.mem_cons_of_mem _ (List.mem_append_left _ (List.mem_append_left _ (List.mem_append_right _ h)))) (by decide +kernel))
set_option maxRecDepth 20000 in
theorem gL_call_L_tryWhy : GoodIn wsL_call (va_wsS RL 146 yL_tryWhy wsL_tryWhy) := goodIn_app (goodIn_r _ [385, 386, 3] rfl (by decide +kernel)) ggL_call_L_tryWhy
set_option maxRecDepth 20000 in
theorem ggL_call_L_tryPlace : GoodIn wsL_call wsL_tryPlace := goodIn_ca (goodIn_r _ [398, 5, 7, 399, 400, 401, 12, 402, 35, 309, 310, 311, 14, 15, 312, 151, 152, 164, 77, 165, 166, 84, 83, 167, 168, 169, 170, 171, 172, 173, 174, 95, 85, 175, 176, 177, 178, 179, 180, 181, 182, 474, 475, 476, 477, 478, 481, 482, 483, 484, 485, 486, 487, 488, 489, 490, 491, 492, 493, 494] rfl (by decide +kernel)) (goodIn_sub (fun _ h => List.mem_cons_of_mem _ (List.mem_append_left _ (List.mem_append_left _ (List.mem_append_right _ h)))) (by decide +kernel))
set_option maxRecDepth 20000 in
theorem gL_call_L_tryPlace : GoodIn wsL_call (va_wsS RL 149 yL_tryPlace wsL_tryPlace) := goodIn_app (goodIn_r _ [396, 397, 3] rfl (by decide +kernel)) ggL_call_L_tryPlace
set_option maxRecDepth 20000 in
theorem ggL_call_L_tryFits : GoodIn wsL_call wsL_tryFits := goodIn_ca (goodIn_r _ [405, 5, 7, 406, 407, 408, 12, 409, 35, 410, 309, 310, 311, 14, 15, 312, 151, 152, 292, 293, 294, 411, 77, 412, 413, 95, 85, 321, 322, 323, 80, 145, 146, 147, 148, 149, 150, 81, 82, 83, 84, 86, 324, 325, 326, 327, 328, 329, 414, 415, 416, 163, 164, 165, 166, 167, 168, 169, 170, 171, 172, 173, 174, 175, 176, 177, 178, 179, 180, 181, 182, 183, 184, 185, 186, 132, 133, 134, 135, 136, 137, 91, 92, 93, 94, 474, 475, 476, 477, 478, 481, 482, 483, 484, 485, 486, 487, 488, 489, 490, 491, 492, 493, 494] rfl (by decide +kernel)) (goodIn_sub (fun _ h => List.mem_cons_of_mem _ (List.mem_append_left _ (List.mem_append_left _ (List.mem_append_right _ h)))) (by decide +kernel))
set_option maxRecDepth 20000 in
theorem gL_call_L_tryFits : GoodIn wsL_call (va_wsS RL 152 yL_tryFits wsL_tryFits) := goodIn_app (goodIn_r _ [403, 404, 3] rfl (by decide +kernel)) ggL_call_L_tryFits
set_option maxRecDepth 20000 in
theorem ggL_call_L_tryWhen : GoodIn wsL_call wsL_tryWhen := goodIn_ca (goodIn_r _ [419, 5, 7, 420, 421, 422, 12, 423, 410, 35, 309, 310, 311, 14, 15, 312, 151, 152, 321, 77, 322, 323, 80, 95, 145, 146, 147, 148, 149, 150, 81, 82, 83, 84, 85, 86, 324, 325, 326, 327, 328, 329, 392, 393, 394, 395, 249, 250, 251, 214, 215, 216, 217, 218, 219, 220, 221, 222, 190, 191, 192, 193, 194, 195, 196, 197, 130, 131, 136, 137, 223, 224, 225, 226, 227, 187, 188, 189, 132, 133, 134, 135, 91, 92, 93, 94, 228, 229, 230, 231, 159, 160, 161, 162, 163, 164, 165, 166, 167, 168, 169, 170, 171, 172, 173, 174, 175, 176, 177, 178, 179, 180, 181, 182, 183, 184, 185, 186, 232, 233, 234, 235, 474, 475, 476, 477, 478, 481, 482, 483, 484, 485, 486, 487, 488, 489, 490, 491, 492, 493, 494] rfl (by decide +kernel)) (goodIn_sub (fun _ h => List.mem_cons_of_mem _ (List.mem_append_left _ (List.mem_append_left _ (List.mem_append_right _ h)))) (by decide +kernel))
set_option maxRecDepth 20000 in
theorem gL_call_L_tryWhen : GoodIn wsL_call (va_wsS RL 155 yL_tryWhen wsL_tryWhen) := goodIn_app (goodIn_r _ [417, 418, 3] rfl (by decide +kernel)) ggL_call_L_tryWhen
set_option maxRecDepth 20000 in
theorem ggL_call_L_tryMover : GoodIn wsL_call wsL_tryMover := goodIn_ca (goodIn_r _ [426, 5, 7, 427, 428, 429, 12, 430, 35, 309, 310, 311, 14, 15, 312, 151, 152, 292, 293, 294, 431, 77, 432, 433, 81, 85, 434, 392, 393, 394, 395, 249, 250, 251, 95, 190, 191, 192, 193, 147, 194, 195, 196, 197, 130, 131, 435, 436, 437, 438, 148, 126, 127, 128, 129, 80, 124, 125, 439, 440, 441, 442, 145, 443, 444, 445, 474, 475, 476, 477, 478, 481, 482, 483, 484, 485, 486, 487, 488, 489, 490, 491, 492, 493, 494] rfl (by decide +kernel)) (goodIn_sub (fun _ h => List.mem_cons_of_mem _ (List.mem_append_left _ (List.mem_append_left _ (List.mem_append_right _ h)))) (by decide +kernel))
set_option maxRecDepth 20000 in
theorem gL_call_L_tryMover : GoodIn wsL_call (va_wsS RL 158 yL_tryMover wsL_tryMover) := goodIn_app (goodIn_r _ [424, 425, 3] rfl (by decide +kernel)) ggL_call_L_tryMover
set_option maxRecDepth 20000 in
theorem ggL_call_L_tryKeep : GoodIn wsL_call wsL_tryKeep := goodIn_ca (goodIn_r _ [448, 258, 259, 449, 450, 451, 12, 452, 37, 35, 453, 454, 455, 268, 269, 456, 102, 457, 458, 459, 105, 319, 320, 321, 77, 322, 323, 80, 95, 145, 146, 147, 148, 149, 150, 81, 82, 83, 84, 85, 86, 324, 325, 326, 327, 328, 329, 474, 475, 476, 477, 478, 481, 482, 483, 484, 485, 486, 487, 488, 489, 490, 491, 492, 493, 494, 498, 499] rfl (by decide +kernel)) (goodIn_sub (fun _ h => List.mem_cons_of_mem _ (List.mem_append_right _ h)) (by decide +kernel))
set_option maxRecDepth 20000 in
theorem gL_call_L_tryKeep : GoodIn wsL_call (va_wsS RL 161 yL_tryKeep wsL_tryKeep) := goodIn_app (goodIn_r _ [446, 447, 3] rfl (by decide +kernel)) ggL_call_L_tryKeep
set_option maxRecDepth 20000 in
theorem ggL_call_L_tryBack : GoodIn wsL_call wsL_tryBack := goodIn_ca (goodIn_ca (goodIn_r _ [462, 258, 6, 259, 8, 463, 464, 465, 12, 466, 16, 17, 37, 35, 36, 453, 454, 455, 268, 269, 467, 102, 468, 469, 105, 470, 471, 472, 459, 473, 319, 320, 321, 77, 322, 323, 80, 95, 145, 146, 147, 148, 149, 150, 81, 82, 83, 84, 85, 86, 324, 325, 326, 327, 328, 329, 96, 97, 98, 99, 100, 474, 475, 476, 477, 478, 481, 482, 483, 484, 485, 486, 487, 488, 489, 490, 491, 492, 493, 494, 498, 499, 495, 496, 497] rfl (by decide +kernel)) (goodIn_sub (fun _ h => List.mem_cons_of_mem _ (List.mem_append_left _ (List.mem_append_right _ h))) (by decide +kernel))) (goodIn_sub (fun _ h => List.mem_cons_of_mem _ (List.mem_append_right _ h)) (by decide +kernel))
set_option maxRecDepth 20000 in
theorem gL_call_L_tryBack : GoodIn wsL_call (va_wsS RL 164 yL_tryBack wsL_tryBack) := goodIn_app (goodIn_r _ [460, 461, 3] rfl (by decide +kernel)) ggL_call_L_tryBack
theorem dL_call_0 : decode cL_call 0 = .ok (.iload_n 1, 1) := by decide +kernel
theorem dL_call_1 : decode cL_call 1 = .ok (.tableswitch 220 0 19 #[95, 101, 106, 112, 119, 125, 132, 138, 145, 151, 157, 164, 170, 177, 182, 188, 194, 201, 207, 214], 95) := by decide +kernel
theorem dL_call_96 : decode cL_call 96 = .ok (.aload_n 0, 1) := by decide +kernel
theorem dL_call_97 : decode cL_call 97 = .ok (.iload_n 2, 1) := by decide +kernel
theorem dL_call_98 : decode cL_call 98 = .ok (.invokestatic 99, 3) := by decide +kernel
theorem dL_call_101 : decode cL_call 101 = .ok (.ireturn, 1) := by decide +kernel
theorem dL_call_102 : decode cL_call 102 = .ok (.aload_n 0, 1) := by decide +kernel
theorem dL_call_103 : decode cL_call 103 = .ok (.invokestatic 105, 3) := by decide +kernel
theorem dL_call_106 : decode cL_call 106 = .ok (.ireturn, 1) := by decide +kernel
theorem dL_call_107 : decode cL_call 107 = .ok (.aload_n 0, 1) := by decide +kernel
theorem dL_call_108 : decode cL_call 108 = .ok (.iload_n 2, 1) := by decide +kernel
theorem dL_call_109 : decode cL_call 109 = .ok (.invokestatic 109, 3) := by decide +kernel
theorem dL_call_112 : decode cL_call 112 = .ok (.ireturn, 1) := by decide +kernel
theorem dL_call_113 : decode cL_call 113 = .ok (.aload_n 0, 1) := by decide +kernel
theorem dL_call_114 : decode cL_call 114 = .ok (.iload_n 2, 1) := by decide +kernel
theorem dL_call_115 : decode cL_call 115 = .ok (.iload_n 3, 1) := by decide +kernel
theorem dL_call_116 : decode cL_call 116 = .ok (.invokestatic 112, 3) := by decide +kernel
theorem dL_call_119 : decode cL_call 119 = .ok (.ireturn, 1) := by decide +kernel
theorem dL_call_120 : decode cL_call 120 = .ok (.aload_n 0, 1) := by decide +kernel
theorem dL_call_121 : decode cL_call 121 = .ok (.iload_n 2, 1) := by decide +kernel
theorem dL_call_122 : decode cL_call 122 = .ok (.invokestatic 116, 3) := by decide +kernel
theorem dL_call_125 : decode cL_call 125 = .ok (.ireturn, 1) := by decide +kernel
theorem dL_call_126 : decode cL_call 126 = .ok (.aload_n 0, 1) := by decide +kernel
theorem dL_call_127 : decode cL_call 127 = .ok (.iload_n 2, 1) := by decide +kernel
theorem dL_call_128 : decode cL_call 128 = .ok (.iload_n 3, 1) := by decide +kernel
theorem dL_call_129 : decode cL_call 129 = .ok (.invokestatic 119, 3) := by decide +kernel
theorem dL_call_132 : decode cL_call 132 = .ok (.ireturn, 1) := by decide +kernel
theorem dL_call_133 : decode cL_call 133 = .ok (.aload_n 0, 1) := by decide +kernel
theorem dL_call_134 : decode cL_call 134 = .ok (.iload_n 2, 1) := by decide +kernel
theorem dL_call_135 : decode cL_call 135 = .ok (.invokestatic 122, 3) := by decide +kernel
theorem dL_call_138 : decode cL_call 138 = .ok (.ireturn, 1) := by decide +kernel
theorem dL_call_139 : decode cL_call 139 = .ok (.aload_n 0, 1) := by decide +kernel
theorem dL_call_140 : decode cL_call 140 = .ok (.iload_n 2, 1) := by decide +kernel
theorem dL_call_141 : decode cL_call 141 = .ok (.iload_n 3, 1) := by decide +kernel
theorem dL_call_142 : decode cL_call 142 = .ok (.invokestatic 125, 3) := by decide +kernel
theorem dL_call_145 : decode cL_call 145 = .ok (.ireturn, 1) := by decide +kernel
theorem dL_call_146 : decode cL_call 146 = .ok (.aload_n 0, 1) := by decide +kernel
theorem dL_call_147 : decode cL_call 147 = .ok (.iload_n 2, 1) := by decide +kernel
theorem dL_call_148 : decode cL_call 148 = .ok (.invokestatic 128, 3) := by decide +kernel
theorem dL_call_151 : decode cL_call 151 = .ok (.ireturn, 1) := by decide +kernel
theorem dL_call_152 : decode cL_call 152 = .ok (.aload_n 0, 1) := by decide +kernel
theorem dL_call_153 : decode cL_call 153 = .ok (.iload_n 2, 1) := by decide +kernel
theorem dL_call_154 : decode cL_call 154 = .ok (.invokestatic 131, 3) := by decide +kernel
theorem dL_call_157 : decode cL_call 157 = .ok (.ireturn, 1) := by decide +kernel
theorem dL_call_158 : decode cL_call 158 = .ok (.aload_n 0, 1) := by decide +kernel
theorem dL_call_159 : decode cL_call 159 = .ok (.iload_n 2, 1) := by decide +kernel
theorem dL_call_160 : decode cL_call 160 = .ok (.iload_n 3, 1) := by decide +kernel
theorem dL_call_161 : decode cL_call 161 = .ok (.invokestatic 134, 3) := by decide +kernel
theorem dL_call_164 : decode cL_call 164 = .ok (.ireturn, 1) := by decide +kernel
theorem dL_call_165 : decode cL_call 165 = .ok (.aload_n 0, 1) := by decide +kernel
theorem dL_call_166 : decode cL_call 166 = .ok (.iload_n 2, 1) := by decide +kernel
theorem dL_call_167 : decode cL_call 167 = .ok (.invokestatic 137, 3) := by decide +kernel
theorem dL_call_170 : decode cL_call 170 = .ok (.ireturn, 1) := by decide +kernel
theorem dL_call_171 : decode cL_call 171 = .ok (.aload_n 0, 1) := by decide +kernel
theorem dL_call_172 : decode cL_call 172 = .ok (.iload_n 2, 1) := by decide +kernel
theorem dL_call_173 : decode cL_call 173 = .ok (.iload_n 3, 1) := by decide +kernel
theorem dL_call_174 : decode cL_call 174 = .ok (.invokestatic 140, 3) := by decide +kernel
theorem dL_call_177 : decode cL_call 177 = .ok (.ireturn, 1) := by decide +kernel
theorem dL_call_178 : decode cL_call 178 = .ok (.aload_n 0, 1) := by decide +kernel
theorem dL_call_179 : decode cL_call 179 = .ok (.invokestatic 143, 3) := by decide +kernel
theorem dL_call_182 : decode cL_call 182 = .ok (.ireturn, 1) := by decide +kernel
theorem dL_call_183 : decode cL_call 183 = .ok (.aload_n 0, 1) := by decide +kernel
theorem dL_call_184 : decode cL_call 184 = .ok (.iload_n 2, 1) := by decide +kernel
theorem dL_call_185 : decode cL_call 185 = .ok (.invokestatic 146, 3) := by decide +kernel
