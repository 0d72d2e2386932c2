theorem dX7_gapIn_16 : decode cX7_gapIn 16 = .ok (.ifCond .eq 5, 3) := by decide +kernel
theorem dX7_gapIn_19 : decode cX7_gapIn 19 = .ok (.iconst 0, 1) := by decide +kernel
theorem dX7_gapIn_20 : decode cX7_gapIn 20 = .ok (.ireturn, 1) := by decide +kernel
theorem dX7_gapIn_21 : decode cX7_gapIn 21 = .ok (.aload_n 0, 1) := by decide +kernel
theorem dX7_gapIn_22 : decode cX7_gapIn 22 = .ok (.getfield 13, 3) := by decide +kernel
theorem dX7_gapIn_25 : decode cX7_gapIn 25 = .ok (.iconst 0, 1) := by decide +kernel
theorem dX7_gapIn_26 : decode cX7_gapIn 26 = .ok (.aload_n 0, 1) := by decide +kernel
theorem dX7_gapIn_27 : decode cX7_gapIn 27 = .ok (.getfield 16, 3) := by decide +kernel
theorem dX7_gapIn_30 : decode cX7_gapIn 30 = .ok (.iconst 0, 1) := by decide +kernel
theorem dX7_gapIn_31 : decode cX7_gapIn 31 = .ok (.invokestatic 198, 3) := by decide +kernel
theorem dX7_gapIn_34 : decode cX7_gapIn 34 = .ok (.iconst 0, 1) := by decide +kernel
theorem dX7_gapIn_35 : decode cX7_gapIn 35 = .ok (.istore_n 2, 1) := by decide +kernel
theorem dX7_gapIn_36 : decode cX7_gapIn 36 = .ok (.iload_n 2, 1) := by decide +kernel
theorem dX7_gapIn_37 : decode cX7_gapIn 37 = .ok (.bipush 100, 2) := by decide +kernel
theorem dX7_gapIn_39 : decode cX7_gapIn 39 = .ok (.if_icmp .gt 30, 3) := by decide +kernel
theorem dX7_gapIn_42 : decode cX7_gapIn 42 = .ok (.aload_n 0, 1) := by decide +kernel
theorem dX7_gapIn_43 : decode cX7_gapIn 43 = .ok (.getfield 16, 3) := by decide +kernel
theorem dX7_gapIn_46 : decode cX7_gapIn 46 = .ok (.iload_n 1, 1) := by decide +kernel
theorem dX7_gapIn_47 : decode cX7_gapIn 47 = .ok (.invokestatic 76, 3) := by decide +kernel
theorem dX7_gapIn_50 : decode cX7_gapIn 50 = .ok (.ifCond .eq 5, 3) := by decide +kernel
theorem dX7_gapIn_53 : decode cX7_gapIn 53 = .ok (.iload_n 2, 1) := by decide +kernel
theorem dX7_gapIn_54 : decode cX7_gapIn 54 = .ok (.ireturn, 1) := by decide +kernel
theorem dX7_gapIn_55 : decode cX7_gapIn 55 = .ok (.aload_n 0, 1) := by decide +kernel
theorem dX7_gapIn_56 : decode cX7_gapIn 56 = .ok (.getfield 16, 3) := by decide +kernel
theorem dX7_gapIn_59 : decode cX7_gapIn 59 = .ok (.invokestatic 115, 3) := by decide +kernel
theorem dX7_gapIn_62 : decode cX7_gapIn 62 = .ok (.pop, 1) := by decide +kernel
theorem dX7_gapIn_63 : decode cX7_gapIn 63 = .ok (.iinc 2 1, 3) := by decide +kernel
theorem dX7_gapIn_66 : decode cX7_gapIn 66 = .ok (.goto (-30), 3) := by decide +kernel
theorem dX7_gapIn_69 : decode cX7_gapIn 69 = .ok (.iconst (-1), 1) := by decide +kernel
theorem dX7_gapIn_70 : decode cX7_gapIn 70 = .ok (.ireturn, 1) := by decide +kernel
set_option maxRecDepth 20000 in
theorem ggX7_helps_X7_canMove : GoodIn wsX7_helps wsX7_canMove := goodIn_r _ [6, 7, 8, 5, 9, 10, 11, 12, 13, 14, 15, 16, 17, 18, 19, 20, 21] rfl (by decide +kernel)
set_option maxRecDepth 20000 in
theorem gX7_helps_X7_canMove : GoodIn wsX7_helps (va_wsS RX7 179 yX7_canMove wsX7_canMove) := goodIn_app (goodIn_r _ [3, 4, 5] rfl (by decide +kernel)) ggX7_helps_X7_canMove
set_option maxRecDepth 20000 in
theorem ggX7_helps_X7_copyState : GoodIn wsX7_helps wsX7_copyState := goodIn_r _ [24] rfl (by decide +kernel)
set_option maxRecDepth 20000 in
theorem gX7_helps_X7_copyState : GoodIn wsX7_helps (va_wsS RX7 198 yX7_copyState wsX7_copyState) := goodIn_app (goodIn_r _ [22, 23, 5] rfl (by decide +kernel)) ggX7_helps_X7_copyState
set_option maxRecDepth 20000 in
theorem ggX7_helps_X7_moveOn : GoodIn wsX7_helps wsX7_moveOn := goodIn_r _ [27, 7, 8, 5, 9, 28, 29, 30, 31, 32, 33] rfl (by decide +kernel)
set_option maxRecDepth 20000 in
theorem gX7_helps_X7_moveOn : GoodIn wsX7_helps (va_wsS RX7 183 yX7_moveOn wsX7_moveOn) := goodIn_app (goodIn_r _ [25, 26, 5] rfl (by decide +kernel)) ggX7_helps_X7_moveOn
set_option maxRecDepth 20000 in
theorem ggX7_helps_X7_suffices : GoodIn wsX7_helps wsX7_suffices := goodIn_r _ [36, 37, 38, 5, 39, 40, 41, 42, 43, 44, 45, 46, 47, 48] rfl (by decide +kernel)
set_option maxRecDepth 20000 in
theorem gX7_helps_X7_suffices : GoodIn wsX7_helps (va_wsS RX7 76 yX7_suffices wsX7_suffices) := goodIn_app (goodIn_r _ [34, 35, 5] rfl (by decide +kernel)) ggX7_helps_X7_suffices
theorem dX7_helps_0 : decode cX7_helps 0 = .ok (.iconst (-1), 1) := by decide +kernel
theorem dX7_helps_1 : decode cX7_helps 1 = .ok (.istore_n 3, 1) := by decide +kernel
theorem dX7_helps_2 : decode cX7_helps 2 = .ok (.iconst 0, 1) := by decide +kernel
theorem dX7_helps_3 : decode cX7_helps 3 = .ok (.istore 4, 2) := by decide +kernel
theorem dX7_helps_5 : decode cX7_helps 5 = .ok (.iconst 0, 1) := by decide +kernel
theorem dX7_helps_6 : decode cX7_helps 6 = .ok (.istore 5, 2) := by decide +kernel
theorem dX7_helps_8 : decode cX7_helps 8 = .ok (.iload 5, 2) := by decide +kernel
theorem dX7_helps_10 : decode cX7_helps 10 = .ok (.bipush 80, 2) := by decide +kernel
theorem dX7_helps_12 : decode cX7_helps 12 = .ok (.if_icmp .ge 103, 3) := by decide +kernel
theorem dX7_helps_15 : decode cX7_helps 15 = .ok (.aload_n 0, 1) := by decide +kernel
theorem dX7_helps_16 : decode cX7_helps 16 = .ok (.getfield 13, 3) := by decide +kernel
theorem dX7_helps_19 : decode cX7_helps 19 = .ok (.iload_n 1, 1) := by decide +kernel
theorem dX7_helps_20 : decode cX7_helps 20 = .ok (.iload 5, 2) := by decide +kernel
theorem dX7_helps_22 : decode cX7_helps 22 = .ok (.invokestatic 179, 3) := by decide +kernel
theorem dX7_helps_25 : decode cX7_helps 25 = .ok (.ifCond .eq 84, 3) := by decide +kernel
theorem dX7_helps_28 : decode cX7_helps 28 = .ok (.aload_n 0, 1) := by decide +kernel
theorem dX7_helps_29 : decode cX7_helps 29 = .ok (.getfield 13, 3) := by decide +kernel
theorem dX7_helps_32 : decode cX7_helps 32 = .ok (.iconst 0, 1) := by decide +kernel
theorem dX7_helps_33 : decode cX7_helps 33 = .ok (.aload_n 0, 1) := by decide +kernel
theorem dX7_helps_34 : decode cX7_helps 34 = .ok (.getfield 19, 3) := by decide +kernel
theorem dX7_helps_37 : decode cX7_helps 37 = .ok (.iconst 0, 1) := by decide +kernel
theorem dX7_helps_38 : decode cX7_helps 38 = .ok (.invokestatic 198, 3) := by decide +kernel
theorem dX7_helps_41 : decode cX7_helps 41 = .ok (.aload_n 0, 1) := by decide +kernel
theorem dX7_helps_42 : decode cX7_helps 42 = .ok (.getfield 19, 3) := by decide +kernel
theorem dX7_helps_45 : decode cX7_helps 45 = .ok (.iload_n 1, 1) := by decide +kernel
theorem dX7_helps_46 : decode cX7_helps 46 = .ok (.iload 5, 2) := by decide +kernel
theorem dX7_helps_48 : decode cX7_helps 48 = .ok (.invokestatic 183, 3) := by decide +kernel
theorem dX7_helps_51 : decode cX7_helps 51 = .ok (.istore 6, 2) := by decide +kernel
theorem dX7_helps_53 : decode cX7_helps 53 = .ok (.aload_n 0, 1) := by decide +kernel
theorem dX7_helps_54 : decode cX7_helps 54 = .ok (.getfield 19, 3) := by decide +kernel
theorem dX7_helps_57 : decode cX7_helps 57 = .ok (.iload_n 2, 1) := by decide +kernel
theorem dX7_helps_58 : decode cX7_helps 58 = .ok (.invokestatic 76, 3) := by decide +kernel
theorem dX7_helps_61 : decode cX7_helps 61 = .ok (.ifCond .eq 19, 3) := by decide +kernel
theorem dX7_helps_64 : decode cX7_helps 64 = .ok (.iload_n 3, 1) := by decide +kernel
theorem dX7_helps_65 : decode cX7_helps 65 = .ok (.iconst (-1), 1) := by decide +kernel
theorem dX7_helps_66 : decode cX7_helps 66 = .ok (.if_icmp .eq 10, 3) := by decide +kernel
theorem dX7_helps_69 : decode cX7_helps 69 = .ok (.iload 6, 2) := by decide +kernel
theorem dX7_helps_71 : decode cX7_helps 71 = .ok (.iload 4, 2) := by decide +kernel
theorem dX7_helps_73 : decode cX7_helps 73 = .ok (.if_icmp .ge 7, 3) := by decide +kernel
theorem dX7_helps_76 : decode cX7_helps 76 = .ok (.iconst 1, 1) := by decide +kernel
theorem dX7_helps_77 : decode cX7_helps 77 = .ok (.goto 4, 3) := by decide +kernel
theorem dX7_helps_80 : decode cX7_helps 80 = .ok (.iconst 0, 1) := by decide +kernel
theorem dX7_helps_81 : decode cX7_helps 81 = .ok (.istore 7, 2) := by decide +kernel
theorem dX7_helps_83 : decode cX7_helps 83 = .ok (.iload 7, 2) := by decide +kernel
theorem dX7_helps_85 : decode cX7_helps 85 = .ok (.ifCond .eq 8, 3) := by decide +kernel
theorem dX7_helps_88 : decode cX7_helps 88 = .ok (.iload 5, 2) := by decide +kernel
theorem dX7_helps_90 : decode cX7_helps 90 = .ok (.goto 4, 3) := by decide +kernel
theorem dX7_helps_93 : decode cX7_helps 93 = .ok (.iload_n 3, 1) := by decide +kernel
theorem dX7_helps_94 : decode cX7_helps 94 = .ok (.istore_n 3, 1) := by decide +kernel
theorem dX7_helps_95 : decode cX7_helps 95 = .ok (.iload 7, 2) := by decide +kernel
theorem dX7_helps_97 : decode cX7_helps 97 = .ok (.ifCond .eq 8, 3) := by decide +kernel
theorem dX7_helps_100 : decode cX7_helps 100 = .ok (.iload 6, 2) := by decide +kernel
theorem dX7_helps_102 : decode cX7_helps 102 = .ok (.goto 5, 3) := by decide +kernel
theorem dX7_helps_105 : decode cX7_helps 105 = .ok (.iload 4, 2) := by decide +kernel
theorem dX7_helps_107 : decode cX7_helps 107 = .ok (.istore 4, 2) := by decide +kernel
theorem dX7_helps_109 : decode cX7_helps 109 = .ok (.iinc 5 1, 3) := by decide +kernel
theorem dX7_helps_112 : decode cX7_helps 112 = .ok (.goto (-104), 3) := by decide +kernel
theorem dX7_helps_115 : decode cX7_helps 115 = .ok (.iload_n 3, 1) := by decide +kernel
theorem dX7_helps_116 : decode cX7_helps 116 = .ok (.ireturn, 1) := by decide +kernel
set_option maxRecDepth 20000 in
theorem ggX7_mover_X7_isLength : GoodIn wsX7_mover wsX7_isLength := goodIn_r _ [5, 6, 7, 8, 9, 4, 10] rfl (by decide +kernel)
set_option maxRecDepth 20000 in
theorem gX7_mover_X7_isLength : GoodIn wsX7_mover (va_wsS RX7 221 yX7_isLength wsX7_isLength) := goodIn_app (goodIn_r _ [2, 3, 4] rfl (by decide +kernel)) ggX7_mover_X7_isLength
set_option maxRecDepth 20000 in
theorem ggX7_mover_X7_in : GoodIn wsX7_mover wsX7_in := goodIn_r _ [10] rfl (by decide +kernel)
set_option maxRecDepth 20000 in
theorem gX7_mover_X7_in : GoodIn wsX7_mover (va_wsS RX7 40 yX7_in wsX7_in) := goodIn_app (goodIn_r _ [8, 9, 4] rfl (by decide +kernel)) ggX7_mover_X7_in
set_option maxRecDepth 20000 in
theorem ggX7_mover_X7_refused : GoodIn wsX7_mover wsX7_refused := goodIn_r _ [14, 15, 63, 64, 65, 66, 67, 68, 69, 70, 71, 72, 73, 74] rfl (by decide +kernel)
set_option maxRecDepth 20000 in
theorem gX7_mover_X7_refused : GoodIn wsX7_mover (wsV RX7 137 RX7 yX7_refused wsX7_refused) := goodIn_app (goodIn_r _ [11, 12, 13, 4] rfl (by decide +kernel)) ggX7_mover_X7_refused
set_option maxRecDepth 20000 in
theorem ggX7_mover_X7_suffices : GoodIn wsX7_mover wsX7_suffices := goodIn_r _ [18, 19, 20, 4, 21, 22, 23, 24, 25, 26, 27, 28, 29, 30] rfl (by decide +kernel)
set_option maxRecDepth 20000 in
theorem gX7_mover_X7_suffices : GoodIn wsX7_mover (va_wsS RX7 76 yX7_suffices wsX7_suffices) := goodIn_app (goodIn_r _ [16, 17, 4] rfl (by decide +kernel)) ggX7_mover_X7_suffices
set_option maxRecDepth 20000 in
theorem ggX7_mover_X7_isParked : GoodIn wsX7_mover wsX7_isParked := goodIn_r _ [33, 34, 35, 4, 36, 8, 9, 10, 37, 38, 39] rfl (by decide +kernel)
set_option maxRecDepth 20000 in
theorem gX7_mover_X7_isParked : GoodIn wsX7_mover (va_wsS RX7 125 yX7_isParked wsX7_isParked) := goodIn_app (goodIn_r _ [31, 32, 4] rfl (by decide +kernel)) ggX7_mover_X7_isParked
set_option maxRecDepth 20000 in
theorem ggX7_mover_X7_helps : GoodIn wsX7_mover wsX7_helps := goodIn_r _ [43, 1, 44, 45, 46, 4, 47, 37, 38, 39, 31, 32, 33, 34, 35, 36, 8, 9, 10, 48, 49, 50, 51, 52, 53, 54, 55, 56, 57, 58, 59, 60, 61, 62, 16, 17, 18, 19, 20, 21, 22, 23, 24, 25, 26, 27, 28, 29, 30, 63, 64, 65, 66, 67, 68, 69, 70, 71, 72, 73, 74] rfl (by decide +kernel)
set_option maxRecDepth 20000 in
theorem gX7_mover_X7_helps : GoodIn wsX7_mover (wsV RX7 238 RX7 yX7_helps wsX7_helps) := goodIn_app (goodIn_r _ [40, 41, 42, 4] rfl (by decide +kernel)) ggX7_mover_X7_helps
theorem dX7_mover_0 : decode cX7_mover 0 = .ok (.aload_n 0, 1) := by decide +kernel
theorem dX7_mover_1 : decode cX7_mover 1 = .ok (.iload_n 1, 1) := by decide +kernel
theorem dX7_mover_2 : decode cX7_mover 2 = .ok (.invokestatic 221, 3) := by decide +kernel
theorem dX7_mover_5 : decode cX7_mover 5 = .ok (.ifCond .eq 17, 3) := by decide +kernel
theorem dX7_mover_8 : decode cX7_mover 8 = .ok (.iload_n 2, 1) := by decide +kernel
theorem dX7_mover_9 : decode cX7_mover 9 = .ok (.i2l, 1) := by decide +kernel
theorem dX7_mover_10 : decode cX7_mover 10 = .ok (.lconst 0, 1) := by decide +kernel
theorem dX7_mover_11 : decode cX7_mover 11 = .ok (.lconst 1, 1) := by decide +kernel
theorem dX7_mover_12 : decode cX7_mover 12 = .ok (.invokestatic 40, 3) := by decide +kernel
theorem dX7_mover_15 : decode cX7_mover 15 = .ok (.ifCond .eq 7, 3) := by decide +kernel
theorem dX7_mover_18 : decode cX7_mover 18 = .ok (.iconst 0, 1) := by decide +kernel
theorem dX7_mover_19 : decode cX7_mover 19 = .ok (.goto 4, 3) := by decide +kernel
theorem dX7_mover_22 : decode cX7_mover 22 = .ok (.iconst 1, 1) := by decide +kernel
theorem dX7_mover_23 : decode cX7_mover 23 = .ok (.invokevirtual 137, 3) := by decide +kernel
theorem dX7_mover_26 : decode cX7_mover 26 = .ok (.ifCond .eq 5, 3) := by decide +kernel
theorem dX7_mover_29 : decode cX7_mover 29 = .ok (.iconst 0, 1) := by decide +kernel
theorem dX7_mover_30 : decode cX7_mover 30 = .ok (.ireturn, 1) := by decide +kernel
theorem dX7_mover_31 : decode cX7_mover 31 = .ok (.iconst 0, 1) := by decide +kernel
theorem dX7_mover_32 : decode cX7_mover 32 = .ok (.istore_n 3, 1) := by decide +kernel
theorem dX7_mover_33 : decode cX7_mover 33 = .ok (.iload_n 3, 1) := by decide +kernel
theorem dX7_mover_34 : decode cX7_mover 34 = .ok (.aload_n 0, 1) := by decide +kernel
theorem dX7_mover_35 : decode cX7_mover 35 = .ok (.getfield 13, 3) := by decide +kernel
theorem dX7_mover_38 : decode cX7_mover 38 = .ok (.iconst 0, 1) := by decide +kernel
theorem dX7_mover_39 : decode cX7_mover 39 = .ok (.iaload, 1) := by decide +kernel
theorem dX7_mover_40 : decode cX7_mover 40 = .ok (.if_icmp .ge 60, 3) := by decide +kernel
theorem dX7_mover_43 : decode cX7_mover 43 = .ok (.aload_n 0, 1) := by decide +kernel
theorem dX7_mover_44 : decode cX7_mover 44 = .ok (.getfield 13, 3) := by decide +kernel
theorem dX7_mover_47 : decode cX7_mover 47 = .ok (.iload_n 1, 1) := by decide +kernel
theorem dX7_mover_48 : decode cX7_mover 48 = .ok (.invokestatic 76, 3) := by decide +kernel
theorem dX7_mover_51 : decode cX7_mover 51 = .ok (.ifCond .ne 49, 3) := by decide +kernel
theorem dX7_mover_54 : decode cX7_mover 54 = .ok (.aload_n 0, 1) := by decide +kernel
theorem dX7_mover_55 : decode cX7_mover 55 = .ok (.getfield 13, 3) := by decide +kernel
theorem dX7_mover_58 : decode cX7_mover 58 = .ok (.iload_n 3, 1) := by decide +kernel
theorem dX7_mover_59 : decode cX7_mover 59 = .ok (.invokestatic 125, 3) := by decide +kernel
theorem dX7_mover_62 : decode cX7_mover 62 = .ok (.ifCond .eq 12, 3) := by decide +kernel
theorem dX7_mover_65 : decode cX7_mover 65 = .ok (.aload_n 0, 1) := by decide +kernel
theorem dX7_mover_66 : decode cX7_mover 66 = .ok (.iload_n 3, 1) := by decide +kernel
theorem dX7_mover_67 : decode cX7_mover 67 = .ok (.iload_n 1, 1) := by decide +kernel
theorem dX7_mover_68 : decode cX7_mover 68 = .ok (.invokevirtual 238, 3) := by decide +kernel
theorem dX7_mover_71 : decode cX7_mover 71 = .ok (.goto 4, 3) := by decide +kernel
theorem dX7_mover_74 : decode cX7_mover 74 = .ok (.iconst (-1), 1) := by decide +kernel
theorem dX7_mover_75 : decode cX7_mover 75 = .ok (.istore 4, 2) := by decide +kernel
theorem dX7_mover_77 : decode cX7_mover 77 = .ok (.iload 4, 2) := by decide +kernel
theorem dX7_mover_79 : decode cX7_mover 79 = .ok (.iconst (-1), 1) := by decide +kernel
theorem dX7_mover_80 : decode cX7_mover 80 = .ok (.if_icmp .eq 14, 3) := by decide +kernel
theorem dX7_mover_83 : decode cX7_mover 83 = .ok (.iload_n 2, 1) := by decide +kernel
theorem dX7_mover_84 : decode cX7_mover 84 = .ok (.ifCond .ne 7, 3) := by decide +kernel
theorem dX7_mover_87 : decode cX7_mover 87 = .ok (.iload_n 3, 1) := by decide +kernel
theorem dX7_mover_88 : decode cX7_mover 88 = .ok (.goto 5, 3) := by decide +kernel
theorem dX7_mover_91 : decode cX7_mover 91 = .ok (.iload 4, 2) := by decide +kernel
theorem dX7_mover_93 : decode cX7_mover 93 = .ok (.ireturn, 1) := by decide +kernel
theorem dX7_mover_94 : decode cX7_mover 94 = .ok (.iinc 3 1, 3) := by decide +kernel
theorem dX7_mover_97 : decode cX7_mover 97 = .ok (.goto (-64), 3) := by decide +kernel
theorem dX7_mover_100 : decode cX7_mover 100 = .ok (.iconst (-1), 1) := by decide +kernel
theorem dX7_mover_101 : decode cX7_mover 101 = .ok (.ireturn, 1) := by decide +kernel
set_option maxRecDepth 20000 in
theorem ggX7_jam_X7_isLength : GoodIn wsX7_jam wsX7_isLength := goodIn_r _ [6, 7, 8, 9, 10, 5, 11] rfl (by decide +kernel)
set_option maxRecDepth 20000 in
theorem gX7_jam_X7_isLength : GoodIn wsX7_jam (va_wsS RX7 221 yX7_isLength wsX7_isLength) := goodIn_app (goodIn_r _ [3, 4, 5] rfl (by decide +kernel)) ggX7_jam_X7_isLength
set_option maxRecDepth 20000 in
theorem ggX7_jam_X7_refused : GoodIn wsX7_jam wsX7_refused := goodIn_r _ [15, 16, 44, 45, 46, 47, 48, 49, 50, 51, 52, 53, 54, 55] rfl (by decide +kernel)
set_option maxRecDepth 20000 in
theorem gX7_jam_X7_refused : GoodIn wsX7_jam (wsV RX7 137 RX7 yX7_refused wsX7_refused) := goodIn_app (goodIn_r _ [12, 13, 14, 5] rfl (by decide +kernel)) ggX7_jam_X7_refused
set_option maxRecDepth 20000 in
theorem ggX7_jam_X7_copyState : GoodIn wsX7_jam wsX7_copyState := goodIn_r _ [19] rfl (by decide +kernel)
set_option maxRecDepth 20000 in
theorem gX7_jam_X7_copyState : GoodIn wsX7_jam (va_wsS RX7 198 yX7_copyState wsX7_copyState) := goodIn_app (goodIn_r _ [17, 18, 5] rfl (by decide +kernel)) ggX7_jam_X7_copyState
set_option maxRecDepth 20000 in
theorem ggX7_jam_X7_layChance : GoodIn wsX7_jam wsX7_layChance := goodIn_r _ [22] rfl (by decide +kernel)
set_option maxRecDepth 20000 in
theorem gX7_jam_X7_layChance : GoodIn wsX7_jam (va_wsS RX7 89 yX7_layChance wsX7_layChance) := goodIn_app (goodIn_r _ [20, 21, 5] rfl (by decide +kernel)) ggX7_jam_X7_layChance
set_option maxRecDepth 20000 in
theorem ggX7_jam_X7_byChance : GoodIn wsX7_jam wsX7_byChance := goodIn_r _ [25, 26, 27, 28, 29, 5, 30, 31, 32, 33, 34, 35, 36, 37, 38, 39, 40, 20, 21, 22] rfl (by decide +kernel)
set_option maxRecDepth 20000 in
theorem gX7_jam_X7_byChance : GoodIn wsX7_jam (va_wsS RX7 93 yX7_byChance wsX7_byChance) := goodIn_app (goodIn_r _ [23, 24, 5] rfl (by decide +kernel)) ggX7_jam_X7_byChance
set_option maxRecDepth 20000 in
theorem ggX7_jam_X7_fill : GoodIn wsX7_jam wsX7_fill := goodIn_r _ [43] rfl (by decide +kernel)
set_option maxRecDepth 20000 in
theorem gX7_jam_X7_fill : GoodIn wsX7_jam (va_wsS RX7 102 yX7_fill wsX7_fill) := goodIn_app (goodIn_r _ [41, 42, 5] rfl (by decide +kernel)) ggX7_jam_X7_fill
theorem dX7_jam_0 : decode cX7_jam 0 = .ok (.aload_n 0, 1) := by decide +kernel
theorem dX7_jam_1 : decode cX7_jam 1 = .ok (.iload_n 1, 1) := by decide +kernel
theorem dX7_jam_2 : decode cX7_jam 2 = .ok (.invokestatic 221, 3) := by decide +kernel
theorem dX7_jam_5 : decode cX7_jam 5 = .ok (.ifCond .eq 7, 3) := by decide +kernel
theorem dX7_jam_8 : decode cX7_jam 8 = .ok (.iconst 0, 1) := by decide +kernel
theorem dX7_jam_9 : decode cX7_jam 9 = .ok (.goto 4, 3) := by decide +kernel
theorem dX7_jam_12 : decode cX7_jam 12 = .ok (.iconst 1, 1) := by decide +kernel
theorem dX7_jam_13 : decode cX7_jam 13 = .ok (.invokevirtual 137, 3) := by decide +kernel
theorem dX7_jam_16 : decode cX7_jam 16 = .ok (.ifCond .eq 5, 3) := by decide +kernel
theorem dX7_jam_19 : decode cX7_jam 19 = .ok (.iconst 0, 1) := by decide +kernel
theorem dX7_jam_20 : decode cX7_jam 20 = .ok (.ireturn, 1) := by decide +kernel
theorem dX7_jam_21 : decode cX7_jam 21 = .ok (.aload_n 0, 1) := by decide +kernel
theorem dX7_jam_22 : decode cX7_jam 22 = .ok (.getfield 13, 3) := by decide +kernel
theorem dX7_jam_25 : decode cX7_jam 25 = .ok (.iconst 0, 1) := by decide +kernel
theorem dX7_jam_26 : decode cX7_jam 26 = .ok (.aload_n 0, 1) := by decide +kernel
theorem dX7_jam_27 : decode cX7_jam 27 = .ok (.getfield 16, 3) := by decide +kernel
theorem dX7_jam_30 : decode cX7_jam 30 = .ok (.iconst 0, 1) := by decide +kernel
theorem dX7_jam_31 : decode cX7_jam 31 = .ok (.invokestatic 198, 3) := by decide +kernel
theorem dX7_jam_34 : decode cX7_jam 34 = .ok (.aload_n 0, 1) := by decide +kernel
theorem dX7_jam_35 : decode cX7_jam 35 = .ok (.getfield 16, 3) := by decide +kernel
theorem dX7_jam_38 : decode cX7_jam 38 = .ok (.lload_n 2, 1) := by decide +kernel
theorem dX7_jam_39 : decode cX7_jam 39 = .ok (.invokestatic 89, 3) := by decide +kernel
theorem dX7_jam_42 : decode cX7_jam 42 = .ok (.iconst 0, 1) := by decide +kernel
theorem dX7_jam_43 : decode cX7_jam 43 = .ok (.istore 4, 2) := by decide +kernel
theorem dX7_jam_45 : decode cX7_jam 45 = .ok (.aload_n 0, 1) := by decide +kernel
theorem dX7_jam_46 : decode cX7_jam 46 = .ok (.getfield 16, 3) := by decide +kernel
theorem dX7_jam_49 : decode cX7_jam 49 = .ok (.iload_n 1, 1) := by decide +kernel
theorem dX7_jam_50 : decode cX7_jam 50 = .ok (.invokestatic 93, 3) := by decide +kernel
theorem dX7_jam_53 : decode cX7_jam 53 = .ok (.istore 5, 2) := by decide +kernel
theorem dX7_jam_55 : decode cX7_jam 55 = .ok (.iload 5, 2) := by decide +kernel
theorem dX7_jam_57 : decode cX7_jam 57 = .ok (.iconst (-1), 1) := by decide +kernel
theorem dX7_jam_58 : decode cX7_jam 58 = .ok (.if_icmp .eq 31, 3) := by decide +kernel
theorem dX7_jam_61 : decode cX7_jam 61 = .ok (.aload_n 0, 1) := by decide +kernel
theorem dX7_jam_62 : decode cX7_jam 62 = .ok (.getfield 16, 3) := by decide +kernel
theorem dX7_jam_65 : decode cX7_jam 65 = .ok (.iload 5, 2) := by decide +kernel
theorem dX7_jam_67 : decode cX7_jam 67 = .ok (.iload_n 1, 1) := by decide +kernel
theorem dX7_jam_68 : decode cX7_jam 68 = .ok (.bipush 100, 2) := by decide +kernel
theorem dX7_jam_70 : decode cX7_jam 70 = .ok (.invokestatic 102, 3) := by decide +kernel
theorem dX7_jam_73 : decode cX7_jam 73 = .ok (.iinc 4 1, 3) := by decide +kernel
theorem dX7_jam_76 : decode cX7_jam 76 = .ok (.aload_n 0, 1) := by decide +kernel
theorem dX7_jam_77 : decode cX7_jam 77 = .ok (.getfield 16, 3) := by decide +kernel
theorem dX7_jam_80 : decode cX7_jam 80 = .ok (.iload_n 1, 1) := by decide +kernel
theorem dX7_jam_81 : decode cX7_jam 81 = .ok (.invokestatic 93, 3) := by decide +kernel
theorem dX7_jam_84 : decode cX7_jam 84 = .ok (.istore 5, 2) := by decide +kernel
theorem dX7_jam_86 : decode cX7_jam 86 = .ok (.goto (-31), 3) := by decide +kernel
theorem dX7_jam_89 : decode cX7_jam 89 = .ok (.iload 4, 2) := by decide +kernel
theorem dX7_jam_91 : decode cX7_jam 91 = .ok (.ireturn, 1) := by decide +kernel
set_option maxRecDepth 20000 in
theorem ggX7_command_X7_isLength : GoodIn wsX7_command wsX7_isLength := goodIn_r _ [7, 8, 9, 10, 11, 6, 12] rfl (by decide +kernel)
set_option maxRecDepth 20000 in
theorem gX7_command_X7_isLength : GoodIn wsX7_command (va_wsS RX7 221 yX7_isLength wsX7_isLength) := goodIn_app (goodIn_r _ [4, 5, 6] rfl (by decide +kernel)) ggX7_command_X7_isLength
set_option maxRecDepth 20000 in
theorem ggX7_command_X7_in : GoodIn wsX7_command wsX7_in := goodIn_r _ [12] rfl (by decide +kernel)
set_option maxRecDepth 20000 in
theorem gX7_command_X7_in : GoodIn wsX7_command (va_wsS RX7 40 yX7_in wsX7_in) := goodIn_app (goodIn_r _ [10, 11, 6] rfl (by decide +kernel)) ggX7_command_X7_in
set_option maxRecDepth 20000 in
theorem ggX7_command_X7_comeOn : GoodIn wsX7_command wsX7_comeOn := goodIn_r _ [15, 16, 17, 6, 18, 19, 20, 21, 22, 23, 24, 25, 26, 27, 28, 29, 30, 31, 32, 33, 34, 35, 36, 37, 38, 39, 40, 41, 42, 43, 44, 45, 46, 47, 48, 49, 50, 51, 52, 53, 54] rfl (by decide +kernel)
set_option maxRecDepth 20000 in
theorem gX7_command_X7_comeOn : GoodIn wsX7_command (va_wsS RX7 172 yX7_comeOn wsX7_comeOn) := goodIn_app (goodIn_r _ [13, 14, 6] rfl (by decide +kernel)) ggX7_command_X7_comeOn
set_option maxRecDepth 20000 in
theorem ggX7_command_X7_isParked : GoodIn wsX7_command wsX7_isParked := goodIn_r _ [57, 58, 59, 6, 60, 10, 11, 12, 22, 23, 24] rfl (by decide +kernel)
set_option maxRecDepth 20000 in
theorem gX7_command_X7_isParked : GoodIn wsX7_command (va_wsS RX7 125 yX7_isParked wsX7_isParked) := goodIn_app (goodIn_r _ [55, 56, 6] rfl (by decide +kernel)) ggX7_command_X7_isParked
set_option maxRecDepth 20000 in
theorem ggX7_command_X7_goes : GoodIn wsX7_command wsX7_goes := goodIn_r _ [63, 22, 23, 6, 24, 52, 53, 54, 16, 17, 18] rfl (by decide +kernel)
set_option maxRecDepth 20000 in
theorem gX7_command_X7_goes : GoodIn wsX7_command (va_wsS RX7 109 yX7_goes wsX7_goes) := goodIn_app (goodIn_r _ [61, 62, 6] rfl (by decide +kernel)) ggX7_command_X7_goes
set_option maxRecDepth 20000 in
theorem ggX7_command_X7_isCar : GoodIn wsX7_command wsX7_isCar := goodIn_r _ [60, 10, 11, 6, 12] rfl (by decide +kernel)
set_option maxRecDepth 20000 in
theorem gX7_command_X7_isCar : GoodIn wsX7_command (va_wsS RX7 44 yX7_isCar wsX7_isCar) := goodIn_app (goodIn_r _ [58, 59, 6] rfl (by decide +kernel)) ggX7_command_X7_isCar
set_option maxRecDepth 20000 in
theorem ggX7_command_X7_isCell : GoodIn wsX7_command wsX7_isCell := goodIn_r _ [66, 67, 10, 11, 6, 12] rfl (by decide +kernel)
set_option maxRecDepth 20000 in
theorem gX7_command_X7_isCell : GoodIn wsX7_command (va_wsS RX7 118 yX7_isCell wsX7_isCell) := goodIn_app (goodIn_r _ [64, 65, 6] rfl (by decide +kernel)) ggX7_command_X7_isCell
set_option maxRecDepth 20000 in
theorem ggX7_command_X7_canMove : GoodIn wsX7_command wsX7_canMove := goodIn_r _ [70, 22, 23, 6, 24, 55, 56, 57, 58, 59, 60, 10, 11, 12, 71, 72, 73] rfl (by decide +kernel)
set_option maxRecDepth 20000 in
theorem gX7_command_X7_canMove : GoodIn wsX7_command (va_wsS RX7 179 yX7_canMove wsX7_canMove) := goodIn_app (goodIn_r _ [68, 69, 6] rfl (by decide +kernel)) ggX7_command_X7_canMove
set_option maxRecDepth 20000 in
theorem ggX7_command_X7_moveOn : GoodIn wsX7_command wsX7_moveOn := goodIn_r _ [76, 22, 23, 6, 24, 52, 53, 54, 16, 17, 18] rfl (by decide +kernel)
set_option maxRecDepth 20000 in
theorem gX7_command_X7_moveOn : GoodIn wsX7_command (va_wsS RX7 183 yX7_moveOn wsX7_moveOn) := goodIn_app (goodIn_r _ [74, 75, 6] rfl (by decide +kernel)) ggX7_command_X7_moveOn
set_option maxRecDepth 20000 in
theorem ggX7_command_X7_minutesOn : GoodIn wsX7_command wsX7_minutesOn := goodIn_r _ [79, 80, 81, 6, 82, 22, 23, 24, 16, 17, 18, 61, 62, 63, 52, 53, 54, 19, 20, 21, 25, 26, 27, 28, 29, 30, 31, 32, 33, 34, 35, 36, 37, 38, 39, 40, 41, 42, 43, 44, 45, 46, 47, 48, 49, 50, 51] rfl (by decide +kernel)
set_option maxRecDepth 20000 in
theorem gX7_command_X7_minutesOn : GoodIn wsX7_command (va_wsS RX7 189 yX7_minutesOn wsX7_minutesOn) := goodIn_app (goodIn_r _ [77, 78, 6] rfl (by decide +kernel)) ggX7_command_X7_minutesOn
set_option maxRecDepth 20000 in
theorem ggX7_command_X7_isSetting : GoodIn wsX7_command wsX7_isSetting := goodIn_r _ [85, 8, 86, 87, 10, 11, 6, 12] rfl (by decide +kernel)
set_option maxRecDepth 20000 in
theorem gX7_command_X7_isSetting : GoodIn wsX7_command (va_wsS RX7 228 yX7_isSetting wsX7_isSetting) := goodIn_app (goodIn_r _ [83, 84, 6] rfl (by decide +kernel)) ggX7_command_X7_isSetting
set_option maxRecDepth 20000 in
theorem ggX7_command_X7_change : GoodIn wsX7_command wsX7_change := goodIn_r _ [90] rfl (by decide +kernel)
set_option maxRecDepth 20000 in
theorem gX7_command_X7_change : GoodIn wsX7_command (va_wsS RX7 186 yX7_change wsX7_change) := goodIn_app (goodIn_r _ [88, 89, 6] rfl (by decide +kernel)) ggX7_command_X7_change
set_option maxRecDepth 20000 in
theorem ggX7_command_X7_canHydrant : GoodIn wsX7_command wsX7_canHydrant := goodIn_r _ [93, 64, 65, 6, 66, 67, 10, 11, 12] rfl (by decide +kernel)
set_option maxRecDepth 20000 in
theorem gX7_command_X7_canHydrant : GoodIn wsX7_command (va_wsS RX7 156 yX7_canHydrant wsX7_canHydrant) := goodIn_app (goodIn_r _ [91, 92, 6] rfl (by decide +kernel)) ggX7_command_X7_canHydrant
set_option maxRecDepth 20000 in
theorem ggX7_command_X7_hydrantOn : GoodIn wsX7_command wsX7_hydrantOn := goodIn_r _ [96, 97, 98, 6, 99] rfl (by decide +kernel)
set_option maxRecDepth 20000 in
theorem gX7_command_X7_hydrantOn : GoodIn wsX7_command (va_wsS RX7 160 yX7_hydrantOn wsX7_hydrantOn) := goodIn_app (goodIn_r _ [94, 95, 6] rfl (by decide +kernel)) ggX7_command_X7_hydrantOn
set_option maxRecDepth 20000 in
theorem ggX7_command_X7_reason : GoodIn wsX7_command wsX7_reason := goodIn_r _ [102, 103, 104, 6, 105, 33, 34, 35, 36, 37, 38, 39, 40, 41, 106, 107, 108] rfl (by decide +kernel)
set_option maxRecDepth 20000 in
theorem gX7_command_X7_reason : GoodIn wsX7_command (va_wsS RX7 232 yX7_reason wsX7_reason) := goodIn_app (goodIn_r _ [100, 101, 6] rfl (by decide +kernel)) ggX7_command_X7_reason
set_option maxRecDepth 20000 in
theorem ggX7_command_X7_of : GoodIn wsX7_command wsX7_of := goodIn_r _ [24] rfl (by decide +kernel)
set_option maxRecDepth 20000 in
theorem gX7_command_X7_of : GoodIn wsX7_command (va_wsS RX7 48 yX7_of wsX7_of) := goodIn_app (goodIn_r _ [22, 23, 6] rfl (by decide +kernel)) ggX7_command_X7_of
set_option maxRecDepth 20000 in
theorem ggX7_command_X7_fitsIn : GoodIn wsX7_command wsX7_fitsIn := goodIn_r _ [111, 33, 34, 6, 35, 36, 37, 38, 39, 40, 41] rfl (by decide +kernel)
set_option maxRecDepth 20000 in
theorem gX7_command_X7_fitsIn : GoodIn wsX7_command (va_wsS RX7 235 yX7_fitsIn wsX7_fitsIn) := goodIn_app (goodIn_r _ [109, 110, 6] rfl (by decide +kernel)) ggX7_command_X7_fitsIn
theorem dX7_command_0 : decode cX7_command 0 = .ok (.iload_n 2, 1) := by decide +kernel
theorem dX7_command_1 : decode cX7_command 1 = .ok (.sipush 10000, 3) := by decide +kernel
theorem dX7_command_4 : decode cX7_command 4 = .ok (.idiv, 1) := by decide +kernel
theorem dX7_command_5 : decode cX7_command 5 = .ok (.istore_n 3, 1) := by decide +kernel
theorem dX7_command_6 : decode cX7_command 6 = .ok (.iload_n 2, 1) := by decide +kernel
theorem dX7_command_7 : decode cX7_command 7 = .ok (.sipush 1000, 3) := by decide +kernel
theorem dX7_command_10 : decode cX7_command 10 = .ok (.idiv, 1) := by decide +kernel
theorem dX7_command_11 : decode cX7_command 11 = .ok (.istore 4, 2) := by decide +kernel
theorem dX7_command_13 : decode cX7_command 13 = .ok (.iload_n 2, 1) := by decide +kernel
theorem dX7_command_14 : decode cX7_command 14 = .ok (.bipush 100, 2) := by decide +kernel
theorem dX7_command_16 : decode cX7_command 16 = .ok (.idiv, 1) := by decide +kernel
theorem dX7_command_17 : decode cX7_command 17 = .ok (.bipush 100, 2) := by decide +kernel
theorem dX7_command_19 : decode cX7_command 19 = .ok (.irem, 1) := by decide +kernel
theorem dX7_command_20 : decode cX7_command 20 = .ok (.istore 5, 2) := by decide +kernel
theorem dX7_command_22 : decode cX7_command 22 = .ok (.iload_n 2, 1) := by decide +kernel
theorem dX7_command_23 : decode cX7_command 23 = .ok (.bipush 10, 2) := by decide +kernel
theorem dX7_command_25 : decode cX7_command 25 = .ok (.idiv, 1) := by decide +kernel
theorem dX7_command_26 : decode cX7_command 26 = .ok (.bipush 100, 2) := by decide +kernel
theorem dX7_command_28 : decode cX7_command 28 = .ok (.irem, 1) := by decide +kernel
theorem dX7_command_29 : decode cX7_command 29 = .ok (.istore 6, 2) := by decide +kernel
theorem dX7_command_31 : decode cX7_command 31 = .ok (.iload_n 2, 1) := by decide +kernel
theorem dX7_command_32 : decode cX7_command 32 = .ok (.bipush 10, 2) := by decide +kernel
theorem dX7_command_34 : decode cX7_command 34 = .ok (.irem, 1) := by decide +kernel
theorem dX7_command_35 : decode cX7_command 35 = .ok (.istore 7, 2) := by decide +kernel
theorem dX7_command_37 : decode cX7_command 37 = .ok (.iload_n 2, 1) := by decide +kernel
theorem dX7_command_38 : decode cX7_command 38 = .ok (.bipush 100, 2) := by decide +kernel
theorem dX7_command_40 : decode cX7_command 40 = .ok (.irem, 1) := by decide +kernel
theorem dX7_command_41 : decode cX7_command 41 = .ok (.istore 8, 2) := by decide +kernel
theorem dX7_command_43 : decode cX7_command 43 = .ok (.iload_n 2, 1) := by decide +kernel
theorem dX7_command_44 : decode cX7_command 44 = .ok (.sipush 1000, 3) := by decide +kernel
theorem dX7_command_47 : decode cX7_command 47 = .ok (.irem, 1) := by decide +kernel
theorem dX7_command_48 : decode cX7_command 48 = .ok (.istore 9, 2) := by decide +kernel
theorem dX7_command_50 : decode cX7_command 50 = .ok (.iload_n 1, 1) := by decide +kernel
theorem dX7_command_51 : decode cX7_command 51 = .ok (.tableswitch 458 1 9 #[49, 123, 159, 218, 247, 288, 346, 382, 422], 49) := by decide +kernel
theorem dX7_command_100 : decode cX7_command 100 = .ok (.iload 8, 2) := by decide +kernel
theorem dX7_command_102 : decode cX7_command 102 = .ok (.iconst 2, 1) := by decide +kernel
theorem dX7_command_103 : decode cX7_command 103 = .ok (.if_icmp .ge 69, 3) := by decide +kernel
theorem dX7_command_106 : decode cX7_command 106 = .ok (.iload_n 3, 1) := by decide +kernel
theorem dX7_command_107 : decode cX7_command 107 = .ok (.invokestatic 221, 3) := by decide +kernel
theorem dX7_command_110 : decode cX7_command 110 = .ok (.ifCond .eq 62, 3) := by decide +kernel
theorem dX7_command_113 : decode cX7_command 113 = .ok (.iload 5, 2) := by decide +kernel
theorem dX7_command_115 : decode cX7_command 115 = .ok (.i2l, 1) := by decide +kernel
theorem dX7_command_116 : decode cX7_command 116 = .ok (.lconst 1, 1) := by decide +kernel
theorem dX7_command_117 : decode cX7_command 117 = .ok (.ldc2_w 224, 3) := by decide +kernel
theorem dX7_command_120 : decode cX7_command 120 = .ok (.invokestatic 40, 3) := by decide +kernel
theorem dX7_command_123 : decode cX7_command 123 = .ok (.ifCond .eq 49, 3) := by decide +kernel
theorem dX7_command_126 : decode cX7_command 126 = .ok (.aload_n 0, 1) := by decide +kernel
theorem dX7_command_127 : decode cX7_command 127 = .ok (.getfield 16, 3) := by decide +kernel
theorem dX7_command_130 : decode cX7_command 130 = .ok (.iconst 0, 1) := by decide +kernel
theorem dX7_command_131 : decode cX7_command 131 = .ok (.iaload, 1) := by decide +kernel
theorem dX7_command_132 : decode cX7_command 132 = .ok (.bipush 40, 2) := by decide +kernel
theorem dX7_command_134 : decode cX7_command 134 = .ok (.if_icmp .ge 38, 3) := by decide +kernel
theorem dX7_command_137 : decode cX7_command 137 = .ok (.aload_n 0, 1) := by decide +kernel
theorem dX7_command_138 : decode cX7_command 138 = .ok (.getfield 16, 3) := by decide +kernel
theorem dX7_command_141 : decode cX7_command 141 = .ok (.aload_n 0, 1) := by decide +kernel
theorem dX7_command_142 : decode cX7_command 142 = .ok (.getfield 16, 3) := by decide +kernel
theorem dX7_command_145 : decode cX7_command 145 = .ok (.iload_n 3, 1) := by decide +kernel
theorem dX7_command_146 : decode cX7_command 146 = .ok (.iload 5, 2) := by decide +kernel
theorem dX7_command_148 : decode cX7_command 148 = .ok (.invokestatic 172, 3) := by decide +kernel
theorem dX7_command_151 : decode cX7_command 151 = .ok (.invokestatic 125, 3) := by decide +kernel
theorem dX7_command_154 : decode cX7_command 154 = .ok (.iload 8, 2) := by decide +kernel
theorem dX7_command_156 : decode cX7_command 156 = .ok (.iconst 1, 1) := by decide +kernel
theorem dX7_command_157 : decode cX7_command 157 = .ok (.if_icmp .ne 7, 3) := by decide +kernel
theorem dX7_command_160 : decode cX7_command 160 = .ok (.iconst 1, 1) := by decide +kernel
theorem dX7_command_161 : decode cX7_command 161 = .ok (.goto 4, 3) := by decide +kernel
theorem dX7_command_164 : decode cX7_command 164 = .ok (.iconst 0, 1) := by decide +kernel
theorem dX7_command_165 : decode cX7_command 165 = .ok (.if_icmp .ne 7, 3) := by decide +kernel
theorem dX7_command_168 : decode cX7_command 168 = .ok (.iconst 1, 1) := by decide +kernel
theorem dX7_command_169 : decode cX7_command 169 = .ok (.goto 4, 3) := by decide +kernel
theorem dX7_command_172 : decode cX7_command 172 = .ok (.iconst 0, 1) := by decide +kernel
theorem dX7_command_173 : decode cX7_command 173 = .ok (.ireturn, 1) := by decide +kernel
theorem dX7_command_174 : decode cX7_command 174 = .ok (.iload 9, 2) := by decide +kernel
theorem dX7_command_176 : decode cX7_command 176 = .ok (.ifCond .ne 32, 3) := by decide +kernel
theorem dX7_command_179 : decode cX7_command 179 = .ok (.aload_n 0, 1) := by decide +kernel
theorem dX7_command_180 : decode cX7_command 180 = .ok (.getfield 16, 3) := by decide +kernel
theorem dX7_command_183 : decode cX7_command 183 = .ok (.iload 4, 2) := by decide +kernel
theorem dX7_command_185 : decode cX7_command 185 = .ok (.invokestatic 125, 3) := by decide +kernel
theorem dX7_command_188 : decode cX7_command 188 = .ok (.ifCond .eq 20, 3) := by decide +kernel
theorem dX7_command_191 : decode cX7_command 191 = .ok (.aload_n 0, 1) := by decide +kernel
theorem dX7_command_192 : decode cX7_command 192 = .ok (.getfield 16, 3) := by decide +kernel
theorem dX7_command_195 : decode cX7_command 195 = .ok (.iload 4, 2) := by decide +kernel
theorem dX7_command_197 : decode cX7_command 197 = .ok (.iconst 2, 1) := by decide +kernel
theorem dX7_command_198 : decode cX7_command 198 = .ok (.invokestatic 109, 3) := by decide +kernel
theorem dX7_command_201 : decode cX7_command 201 = .ok (.ifCond .lt 7, 3) := by decide +kernel
theorem dX7_command_204 : decode cX7_command 204 = .ok (.iconst 1, 1) := by decide +kernel
theorem dX7_command_205 : decode cX7_command 205 = .ok (.goto 4, 3) := by decide +kernel
theorem dX7_command_208 : decode cX7_command 208 = .ok (.iconst 0, 1) := by decide +kernel
theorem dX7_command_209 : decode cX7_command 209 = .ok (.ireturn, 1) := by decide +kernel
theorem dX7_command_210 : decode cX7_command 210 = .ok (.iload 7, 2) := by decide +kernel
theorem dX7_command_212 : decode cX7_command 212 = .ok (.ifCond .ne 55, 3) := by decide +kernel
theorem dX7_command_215 : decode cX7_command 215 = .ok (.aload_n 0, 1) := by decide +kernel
theorem dX7_command_216 : decode cX7_command 216 = .ok (.getfield 16, 3) := by decide +kernel
theorem dX7_command_219 : decode cX7_command 219 = .ok (.iload 4, 2) := by decide +kernel
theorem dX7_command_221 : decode cX7_command 221 = .ok (.invokestatic 44, 3) := by decide +kernel
theorem dX7_command_224 : decode cX7_command 224 = .ok (.ifCond .eq 43, 3) := by decide +kernel
theorem dX7_command_227 : decode cX7_command 227 = .ok (.iload 6, 2) := by decide +kernel
theorem dX7_command_229 : decode cX7_command 229 = .ok (.invokestatic 118, 3) := by decide +kernel
theorem dX7_command_232 : decode cX7_command 232 = .ok (.ifCond .eq 35, 3) := by decide +kernel
theorem dX7_command_235 : decode cX7_command 235 = .ok (.aload_n 0, 1) := by decide +kernel
theorem dX7_command_236 : decode cX7_command 236 = .ok (.getfield 16, 3) := by decide +kernel
theorem dX7_command_239 : decode cX7_command 239 = .ok (.iload 4, 2) := by decide +kernel
theorem dX7_command_241 : decode cX7_command 241 = .ok (.iload 6, 2) := by decide +kernel
theorem dX7_command_243 : decode cX7_command 243 = .ok (.invokestatic 179, 3) := by decide +kernel
theorem dX7_command_246 : decode cX7_command 246 = .ok (.ifCond .eq 21, 3) := by decide +kernel
theorem dX7_command_249 : decode cX7_command 249 = .ok (.aload_n 0, 1) := by decide +kernel
theorem dX7_command_250 : decode cX7_command 250 = .ok (.getfield 16, 3) := by decide +kernel
theorem dX7_command_253 : decode cX7_command 253 = .ok (.iload 4, 2) := by decide +kernel
theorem dX7_command_255 : decode cX7_command 255 = .ok (.iload 6, 2) := by decide +kernel
theorem dX7_command_257 : decode cX7_command 257 = .ok (.invokestatic 183, 3) := by decide +kernel
theorem dX7_command_260 : decode cX7_command 260 = .ok (.ifCond .lt 7, 3) := by decide +kernel
theorem dX7_command_263 : decode cX7_command 263 = .ok (.iconst 1, 1) := by decide +kernel
theorem dX7_command_264 : decode cX7_command 264 = .ok (.goto 4, 3) := by decide +kernel
theorem dX7_command_267 : decode cX7_command 267 = .ok (.iconst 0, 1) := by decide +kernel
theorem dX7_command_268 : decode cX7_command 268 = .ok (.ireturn, 1) := by decide +kernel
theorem dX7_command_269 : decode cX7_command 269 = .ok (.iload_n 2, 1) := by decide +kernel
theorem dX7_command_270 : decode cX7_command 270 = .ok (.i2l, 1) := by decide +kernel
theorem dX7_command_271 : decode cX7_command 271 = .ok (.lconst 1, 1) := by decide +kernel
theorem dX7_command_272 : decode cX7_command 272 = .ok (.ldc2_w 226, 3) := by decide +kernel
theorem dX7_command_275 : decode cX7_command 275 = .ok (.invokestatic 40, 3) := by decide +kernel
theorem dX7_command_278 : decode cX7_command 278 = .ok (.ifCond .eq 18, 3) := by decide +kernel
theorem dX7_command_281 : decode cX7_command 281 = .ok (.aload_n 0, 1) := by decide +kernel
theorem dX7_command_282 : decode cX7_command 282 = .ok (.getfield 16, 3) := by decide +kernel
theorem dX7_command_285 : decode cX7_command 285 = .ok (.iload_n 2, 1) := by decide +kernel
theorem dX7_command_286 : decode cX7_command 286 = .ok (.invokestatic 189, 3) := by decide +kernel
theorem dX7_command_289 : decode cX7_command 289 = .ok (.ifCond .lt 7, 3) := by decide +kernel
theorem dX7_command_292 : decode cX7_command 292 = .ok (.iconst 1, 1) := by decide +kernel
theorem dX7_command_293 : decode cX7_command 293 = .ok (.goto 4, 3) := by decide +kernel
theorem dX7_command_296 : decode cX7_command 296 = .ok (.iconst 0, 1) := by decide +kernel
theorem dX7_command_297 : decode cX7_command 297 = .ok (.ireturn, 1) := by decide +kernel
theorem dX7_command_298 : decode cX7_command 298 = .ok (.iload 4, 2) := by decide +kernel
theorem dX7_command_300 : decode cX7_command 300 = .ok (.bipush 10, 2) := by decide +kernel
theorem dX7_command_302 : decode cX7_command 302 = .ok (.irem, 1) := by decide +kernel
theorem dX7_command_303 : decode cX7_command 303 = .ok (.ifCond .ne 34, 3) := by decide +kernel
theorem dX7_command_306 : decode cX7_command 306 = .ok (.iload 7, 2) := by decide +kernel
theorem dX7_command_308 : decode cX7_command 308 = .ok (.ifCond .ne 29, 3) := by decide +kernel
theorem dX7_command_311 : decode cX7_command 311 = .ok (.iload_n 3, 1) := by decide +kernel
theorem dX7_command_312 : decode cX7_command 312 = .ok (.iload 6, 2) := by decide +kernel
theorem dX7_command_314 : decode cX7_command 314 = .ok (.invokestatic 228, 3) := by decide +kernel
theorem dX7_command_317 : decode cX7_command 317 = .ok (.ifCond .eq 20, 3) := by decide +kernel
theorem dX7_command_320 : decode cX7_command 320 = .ok (.aload_n 0, 1) := by decide +kernel
theorem dX7_command_321 : decode cX7_command 321 = .ok (.getfield 16, 3) := by decide +kernel
theorem dX7_command_324 : decode cX7_command 324 = .ok (.iload_n 3, 1) := by decide +kernel
theorem dX7_command_325 : decode cX7_command 325 = .ok (.iload 6, 2) := by decide +kernel
theorem dX7_command_327 : decode cX7_command 327 = .ok (.invokestatic 186, 3) := by decide +kernel
theorem dX7_command_330 : decode cX7_command 330 = .ok (.ifCond .lt 7, 3) := by decide +kernel
theorem dX7_command_333 : decode cX7_command 333 = .ok (.iconst 1, 1) := by decide +kernel
theorem dX7_command_334 : decode cX7_command 334 = .ok (.goto 4, 3) := by decide +kernel
theorem dX7_command_337 : decode cX7_command 337 = .ok (.iconst 0, 1) := by decide +kernel
theorem dX7_command_338 : decode cX7_command 338 = .ok (.ireturn, 1) := by decide +kernel
theorem dX7_command_339 : decode cX7_command 339 = .ok (.iload 9, 2) := by decide +kernel
theorem dX7_command_341 : decode cX7_command 341 = .ok (.iconst 2, 1) := by decide +kernel
theorem dX7_command_342 : decode cX7_command 342 = .ok (.if_icmp .ge 53, 3) := by decide +kernel
theorem dX7_command_345 : decode cX7_command 345 = .ok (.aload_n 0, 1) := by decide +kernel
theorem dX7_command_346 : decode cX7_command 346 = .ok (.getfield 16, 3) := by decide +kernel
theorem dX7_command_349 : decode cX7_command 349 = .ok (.iload 4, 2) := by decide +kernel
theorem dX7_command_351 : decode cX7_command 351 = .ok (.iload 9, 2) := by decide +kernel
theorem dX7_command_353 : decode cX7_command 353 = .ok (.iconst 1, 1) := by decide +kernel
theorem dX7_command_354 : decode cX7_command 354 = .ok (.if_icmp .ne 7, 3) := by decide +kernel
theorem dX7_command_357 : decode cX7_command 357 = .ok (.iconst 1, 1) := by decide +kernel
theorem dX7_command_358 : decode cX7_command 358 = .ok (.goto 4, 3) := by decide +kernel
theorem dX7_command_361 : decode cX7_command 361 = .ok (.iconst 0, 1) := by decide +kernel
theorem dX7_command_362 : decode cX7_command 362 = .ok (.invokestatic 156, 3) := by decide +kernel
theorem dX7_command_365 : decode cX7_command 365 = .ok (.ifCond .eq 30, 3) := by decide +kernel
theorem dX7_command_368 : decode cX7_command 368 = .ok (.aload_n 0, 1) := by decide +kernel
theorem dX7_command_369 : decode cX7_command 369 = .ok (.getfield 16, 3) := by decide +kernel
theorem dX7_command_372 : decode cX7_command 372 = .ok (.iload 4, 2) := by decide +kernel
theorem dX7_command_374 : decode cX7_command 374 = .ok (.iload 9, 2) := by decide +kernel
theorem dX7_command_376 : decode cX7_command 376 = .ok (.iconst 1, 1) := by decide +kernel
theorem dX7_command_377 : decode cX7_command 377 = .ok (.if_icmp .ne 7, 3) := by decide +kernel
theorem dX7_command_380 : decode cX7_command 380 = .ok (.iconst 1, 1) := by decide +kernel
theorem dX7_command_381 : decode cX7_command 381 = .ok (.goto 4, 3) := by decide +kernel
theorem dX7_command_384 : decode cX7_command 384 = .ok (.iconst 0, 1) := by decide +kernel
theorem dX7_command_385 : decode cX7_command 385 = .ok (.invokestatic 160, 3) := by decide +kernel
theorem dX7_command_388 : decode cX7_command 388 = .ok (.ifCond .lt 7, 3) := by decide +kernel
theorem dX7_command_391 : decode cX7_command 391 = .ok (.iconst 1, 1) := by decide +kernel
theorem dX7_command_392 : decode cX7_command 392 = .ok (.goto 4, 3) := by decide +kernel
theorem dX7_command_395 : decode cX7_command 395 = .ok (.iconst 0, 1) := by decide +kernel
theorem dX7_command_396 : decode cX7_command 396 = .ok (.ireturn, 1) := by decide +kernel
theorem dX7_command_397 : decode cX7_command 397 = .ok (.iload_n 2, 1) := by decide +kernel
theorem dX7_command_398 : decode cX7_command 398 = .ok (.sipush 10000, 3) := by decide +kernel
theorem dX7_command_401 : decode cX7_command 401 = .ok (.irem, 1) := by decide +kernel
theorem dX7_command_402 : decode cX7_command 402 = .ok (.bipush 10, 2) := by decide +kernel
theorem dX7_command_404 : decode cX7_command 404 = .ok (.if_icmp .ge 27, 3) := by decide +kernel
theorem dX7_command_407 : decode cX7_command 407 = .ok (.iload_n 3, 1) := by decide +kernel
theorem dX7_command_408 : decode cX7_command 408 = .ok (.invokestatic 221, 3) := by decide +kernel
theorem dX7_command_411 : decode cX7_command 411 = .ok (.ifCond .eq 20, 3) := by decide +kernel
theorem dX7_command_414 : decode cX7_command 414 = .ok (.aload_n 0, 1) := by decide +kernel
theorem dX7_command_415 : decode cX7_command 415 = .ok (.getfield 16, 3) := by decide +kernel
theorem dX7_command_418 : decode cX7_command 418 = .ok (.iload_n 3, 1) := by decide +kernel
theorem dX7_command_419 : decode cX7_command 419 = .ok (.invokestatic 232, 3) := by decide +kernel
theorem dX7_command_422 : decode cX7_command 422 = .ok (.iload 7, 2) := by decide +kernel
theorem dX7_command_424 : decode cX7_command 424 = .ok (.if_icmp .ne 7, 3) := by decide +kernel
theorem dX7_command_427 : decode cX7_command 427 = .ok (.iconst 1, 1) := by decide +kernel
theorem dX7_command_428 : decode cX7_command 428 = .ok (.goto 4, 3) := by decide +kernel
theorem dX7_command_431 : decode cX7_command 431 = .ok (.iconst 0, 1) := by decide +kernel
theorem dX7_command_432 : decode cX7_command 432 = .ok (.ireturn, 1) := by decide +kernel
theorem dX7_command_433 : decode cX7_command 433 = .ok (.iload 9, 2) := by decide +kernel
theorem dX7_command_435 : decode cX7_command 435 = .ok (.bipush 10, 2) := by decide +kernel
theorem dX7_command_437 : decode cX7_command 437 = .ok (.if_icmp .ge 34, 3) := by decide +kernel
theorem dX7_command_440 : decode cX7_command 440 = .ok (.aload_n 0, 1) := by decide +kernel
theorem dX7_command_441 : decode cX7_command 441 = .ok (.getfield 16, 3) := by decide +kernel
theorem dX7_command_444 : decode cX7_command 444 = .ok (.iload 4, 2) := by decide +kernel
theorem dX7_command_446 : decode cX7_command 446 = .ok (.invokestatic 44, 3) := by decide +kernel
theorem dX7_command_449 : decode cX7_command 449 = .ok (.ifCond .eq 22, 3) := by decide +kernel
theorem dX7_command_452 : decode cX7_command 452 = .ok (.aload_n 0, 1) := by decide +kernel
theorem dX7_command_453 : decode cX7_command 453 = .ok (.getfield 16, 3) := by decide +kernel
theorem dX7_command_456 : decode cX7_command 456 = .ok (.iload 4, 2) := by decide +kernel
theorem dX7_command_458 : decode cX7_command 458 = .ok (.iconst 2, 1) := by decide +kernel
theorem dX7_command_459 : decode cX7_command 459 = .ok (.invokestatic 48, 3) := by decide +kernel
theorem dX7_command_462 : decode cX7_command 462 = .ok (.iload 7, 2) := by decide +kernel
theorem dX7_command_464 : decode cX7_command 464 = .ok (.if_icmp .ne 7, 3) := by decide +kernel
theorem dX7_command_467 : decode cX7_command 467 = .ok (.iconst 1, 1) := by decide +kernel
theorem dX7_command_468 : decode cX7_command 468 = .ok (.goto 4, 3) := by decide +kernel
theorem dX7_command_471 : decode cX7_command 471 = .ok (.iconst 0, 1) := by decide +kernel
theorem dX7_command_472 : decode cX7_command 472 = .ok (.ireturn, 1) := by decide +kernel
theorem dX7_command_473 : decode cX7_command 473 = .ok (.iload_n 2, 1) := by decide +kernel
theorem dX7_command_474 : decode cX7_command 474 = .ok (.sipush 10000, 3) := by decide +kernel
theorem dX7_command_477 : decode cX7_command 477 = .ok (.irem, 1) := by decide +kernel
theorem dX7_command_478 : decode cX7_command 478 = .ok (.bipush 100, 2) := by decide +kernel
theorem dX7_command_480 : decode cX7_command 480 = .ok (.if_icmp .ge 27, 3) := by decide +kernel
theorem dX7_command_483 : decode cX7_command 483 = .ok (.iload_n 3, 1) := by decide +kernel
theorem dX7_command_484 : decode cX7_command 484 = .ok (.invokestatic 221, 3) := by decide +kernel
theorem dX7_command_487 : decode cX7_command 487 = .ok (.ifCond .eq 20, 3) := by decide +kernel
theorem dX7_command_490 : decode cX7_command 490 = .ok (.aload_n 0, 1) := by decide +kernel
theorem dX7_command_491 : decode cX7_command 491 = .ok (.getfield 16, 3) := by decide +kernel
theorem dX7_command_494 : decode cX7_command 494 = .ok (.iload_n 3, 1) := by decide +kernel
theorem dX7_command_495 : decode cX7_command 495 = .ok (.invokestatic 235, 3) := by decide +kernel
theorem dX7_command_498 : decode cX7_command 498 = .ok (.iload 8, 2) := by decide +kernel
theorem dX7_command_500 : decode cX7_command 500 = .ok (.if_icmp .lt 7, 3) := by decide +kernel
theorem dX7_command_503 : decode cX7_command 503 = .ok (.iconst 1, 1) := by decide +kernel
theorem dX7_command_504 : decode cX7_command 504 = .ok (.goto 4, 3) := by decide +kernel
theorem dX7_command_507 : decode cX7_command 507 = .ok (.iconst 0, 1) := by decide +kernel
theorem dX7_command_508 : decode cX7_command 508 = .ok (.ireturn, 1) := by decide +kernel
theorem dX7_command_509 : decode cX7_command 509 = .ok (.iconst 0, 1) := by decide +kernel
theorem dX7_command_510 : decode cX7_command 510 = .ok (.ireturn, 1) := by decide +kernel
set_option maxRecDepth 20000 in
theorem ggX7_runScript_X7_in : GoodIn wsX7_runScript wsX7_in := goodIn_r _ [9] rfl (by decide +kernel)
set_option maxRecDepth 20000 in
theorem gX7_runScript_X7_in : GoodIn wsX7_runScript (va_wsS RX7 40 yX7_in wsX7_in) := goodIn_app (goodIn_r _ [6, 7, 8] rfl (by decide +kernel)) ggX7_runScript_X7_in
set_option maxRecDepth 20000 in
theorem ggX7_runScript_X7_refused : GoodIn wsX7_runScript wsX7_refused := goodIn_r _ [13, 14, 128, 129, 130, 131, 132, 133, 134, 135, 136, 137, 138, 139] rfl (by decide +kernel)
set_option maxRecDepth 20000 in
theorem gX7_runScript_X7_refused : GoodIn wsX7_runScript (wsV RX7 137 RX7 yX7_refused wsX7_refused) := goodIn_app (goodIn_r _ [10, 11, 12, 8] rfl (by decide +kernel)) ggX7_runScript_X7_refused
set_option maxRecDepth 20000 in
theorem ggX7_runScript_X7_copyState : GoodIn wsX7_runScript wsX7_copyState := goodIn_r _ [17] rfl (by decide +kernel)
set_option maxRecDepth 20000 in
theorem gX7_runScript_X7_copyState : GoodIn wsX7_runScript (va_wsS RX7 198 yX7_copyState wsX7_copyState) := goodIn_app (goodIn_r _ [15, 16, 8] rfl (by decide +kernel)) ggX7_runScript_X7_copyState
set_option maxRecDepth 20000 in
theorem ggX7_runScript_X7_command : GoodIn wsX7_runScript wsX7_command := goodIn_r _ [21, 22, 4, 23, 24, 25, 8, 26, 27, 28, 6, 7, 9, 29, 30, 31, 32, 33, 34, 35, 36, 37, 38, 39, 40, 41, 42, 43, 44, 45, 46, 47, 48, 49, 50, 51, 52, 53, 54, 55, 56, 57, 58, 59, 60, 61, 62, 63, 64, 65, 66, 67, 68, 69, 70, 71, 72, 73, 74, 75, 76, 77, 78, 79, 80, 81, 82, 83, 84, 85, 86, 87, 88, 89, 90, 91, 92, 93, 94, 95, 96, 97, 98, 99, 100, 101, 102, 103, 104, 105, 106, 107, 108, 109, 110, 111, 112, 113, 114, 115, 116, 117, 118, 119, 120, 121, 122, 123, 124, 125, 126, 127, 128, 129, 130, 131, 132, 133, 134, 135, 136, 137, 138, 139] rfl (by decide +kernel)
set_option maxRecDepth 20000 in
theorem gX7_runScript_X7_command : GoodIn wsX7_runScript (wsV RX7 247 RX7 yX7_command wsX7_command) := goodIn_app (goodIn_r _ [18, 19, 20, 8] rfl (by decide +kernel)) ggX7_runScript_X7_command
theorem dX7_runScript_0 : decode cX7_runScript 0 = .ok (.lconst 1, 1) := by decide +kernel
theorem dX7_runScript_1 : decode cX7_runScript 1 = .ok (.lstore 4, 2) := by decide +kernel
theorem dX7_runScript_3 : decode cX7_runScript 3 = .ok (.iconst 0, 1) := by decide +kernel
theorem dX7_runScript_4 : decode cX7_runScript 4 = .ok (.istore 6, 2) := by decide +kernel
theorem dX7_runScript_6 : decode cX7_runScript 6 = .ok (.iload 6, 2) := by decide +kernel
theorem dX7_runScript_8 : decode cX7_runScript 8 = .ok (.iload_n 1, 1) := by decide +kernel
theorem dX7_runScript_9 : decode cX7_runScript 9 = .ok (.if_icmp .ge 23, 3) := by decide +kernel
theorem dX7_runScript_12 : decode cX7_runScript 12 = .ok (.iload 6, 2) := by decide +kernel
theorem dX7_runScript_14 : decode cX7_runScript 14 = .ok (.iconst 3, 1) := by decide +kernel
theorem dX7_runScript_15 : decode cX7_runScript 15 = .ok (.if_icmp .ge 17, 3) := by decide +kernel
theorem dX7_runScript_18 : decode cX7_runScript 18 = .ok (.lload 4, 2) := by decide +kernel
theorem dX7_runScript_20 : decode cX7_runScript 20 = .ok (.ldc2_w 242, 3) := by decide +kernel
theorem dX7_runScript_23 : decode cX7_runScript 23 = .ok (.lmul, 1) := by decide +kernel
theorem dX7_runScript_24 : decode cX7_runScript 24 = .ok (.lstore 4, 2) := by decide +kernel
theorem dX7_runScript_26 : decode cX7_runScript 26 = .ok (.iinc 6 1, 3) := by decide +kernel
theorem dX7_runScript_29 : decode cX7_runScript 29 = .ok (.goto (-23), 3) := by decide +kernel
theorem dX7_runScript_32 : decode cX7_runScript 32 = .ok (.aload_n 0, 1) := by decide +kernel
theorem dX7_runScript_33 : decode cX7_runScript 33 = .ok (.iload_n 1, 1) := by decide +kernel
theorem dX7_runScript_34 : decode cX7_runScript 34 = .ok (.i2l, 1) := by decide +kernel
theorem dX7_runScript_35 : decode cX7_runScript 35 = .ok (.lconst 1, 1) := by decide +kernel
theorem dX7_runScript_36 : decode cX7_runScript 36 = .ok (.ldc2_w 244, 3) := by decide +kernel
theorem dX7_runScript_39 : decode cX7_runScript 39 = .ok (.invokestatic 40, 3) := by decide +kernel
theorem dX7_runScript_42 : decode cX7_runScript 42 = .ok (.ifCond .eq 19, 3) := by decide +kernel
theorem dX7_runScript_45 : decode cX7_runScript 45 = .ok (.lload_n 2, 1) := by decide +kernel
theorem dX7_runScript_46 : decode cX7_runScript 46 = .ok (.lconst 0, 1) := by decide +kernel
theorem dX7_runScript_47 : decode cX7_runScript 47 = .ok (.lload 4, 2) := by decide +kernel
theorem dX7_runScript_49 : decode cX7_runScript 49 = .ok (.lconst 1, 1) := by decide +kernel
theorem dX7_runScript_50 : decode cX7_runScript 50 = .ok (.lsub, 1) := by decide +kernel
theorem dX7_runScript_51 : decode cX7_runScript 51 = .ok (.invokestatic 40, 3) := by decide +kernel
theorem dX7_runScript_54 : decode cX7_runScript 54 = .ok (.ifCond .eq 7, 3) := by decide +kernel
theorem dX7_runScript_57 : decode cX7_runScript 57 = .ok (.iconst 0, 1) := by decide +kernel
theorem dX7_runScript_58 : decode cX7_runScript 58 = .ok (.goto 4, 3) := by decide +kernel
theorem dX7_runScript_61 : decode cX7_runScript 61 = .ok (.iconst 1, 1) := by decide +kernel
theorem dX7_runScript_62 : decode cX7_runScript 62 = .ok (.invokevirtual 137, 3) := by decide +kernel
theorem dX7_runScript_65 : decode cX7_runScript 65 = .ok (.ifCond .eq 5, 3) := by decide +kernel
theorem dX7_runScript_68 : decode cX7_runScript 68 = .ok (.iconst 0, 1) := by decide +kernel
theorem dX7_runScript_69 : decode cX7_runScript 69 = .ok (.ireturn, 1) := by decide +kernel
theorem dX7_runScript_70 : decode cX7_runScript 70 = .ok (.aload_n 0, 1) := by decide +kernel
theorem dX7_runScript_71 : decode cX7_runScript 71 = .ok (.getfield 13, 3) := by decide +kernel
theorem dX7_runScript_74 : decode cX7_runScript 74 = .ok (.iconst 0, 1) := by decide +kernel
theorem dX7_runScript_75 : decode cX7_runScript 75 = .ok (.aload_n 0, 1) := by decide +kernel
theorem dX7_runScript_76 : decode cX7_runScript 76 = .ok (.getfield 16, 3) := by decide +kernel
theorem dX7_runScript_79 : decode cX7_runScript 79 = .ok (.iconst 0, 1) := by decide +kernel
theorem dX7_runScript_80 : decode cX7_runScript 80 = .ok (.invokestatic 198, 3) := by decide +kernel
theorem dX7_runScript_83 : decode cX7_runScript 83 = .ok (.iconst 0, 1) := by decide +kernel
theorem dX7_runScript_84 : decode cX7_runScript 84 = .ok (.istore 6, 2) := by decide +kernel
theorem dX7_runScript_86 : decode cX7_runScript 86 = .ok (.iload 6, 2) := by decide +kernel
theorem dX7_runScript_88 : decode cX7_runScript 88 = .ok (.iload_n 1, 1) := by decide +kernel
theorem dX7_runScript_89 : decode cX7_runScript 89 = .ok (.if_icmp .ge 48, 3) := by decide +kernel
theorem dX7_runScript_92 : decode cX7_runScript 92 = .ok (.lload 4, 2) := by decide +kernel
theorem dX7_runScript_94 : decode cX7_runScript 94 = .ok (.ldc2_w 242, 3) := by decide +kernel
theorem dX7_runScript_97 : decode cX7_runScript 97 = .ok (.ldiv, 1) := by decide +kernel
theorem dX7_runScript_98 : decode cX7_runScript 98 = .ok (.lstore 4, 2) := by decide +kernel
theorem dX7_runScript_100 : decode cX7_runScript 100 = .ok (.lload_n 2, 1) := by decide +kernel
theorem dX7_runScript_101 : decode cX7_runScript 101 = .ok (.lload 4, 2) := by decide +kernel
theorem dX7_runScript_103 : decode cX7_runScript 103 = .ok (.ldiv, 1) := by decide +kernel
theorem dX7_runScript_104 : decode cX7_runScript 104 = .ok (.ldc2_w 242, 3) := by decide +kernel
theorem dX7_runScript_107 : decode cX7_runScript 107 = .ok (.lrem, 1) := by decide +kernel
theorem dX7_runScript_108 : decode cX7_runScript 108 = .ok (.l2i, 1) := by decide +kernel
theorem dX7_runScript_109 : decode cX7_runScript 109 = .ok (.istore 7, 2) := by decide +kernel
theorem dX7_runScript_111 : decode cX7_runScript 111 = .ok (.aload_n 0, 1) := by decide +kernel
theorem dX7_runScript_112 : decode cX7_runScript 112 = .ok (.iload 7, 2) := by decide +kernel
theorem dX7_runScript_114 : decode cX7_runScript 114 = .ok (.ldc 246, 2) := by decide +kernel
theorem dX7_runScript_116 : decode cX7_runScript 116 = .ok (.idiv, 1) := by decide +kernel
theorem dX7_runScript_117 : decode cX7_runScript 117 = .ok (.iload 7, 2) := by decide +kernel
theorem dX7_runScript_119 : decode cX7_runScript 119 = .ok (.ldc 246, 2) := by decide +kernel
theorem dX7_runScript_121 : decode cX7_runScript 121 = .ok (.irem, 1) := by decide +kernel
theorem dX7_runScript_122 : decode cX7_runScript 122 = .ok (.invokevirtual 247, 3) := by decide +kernel
theorem dX7_runScript_125 : decode cX7_runScript 125 = .ok (.ifCond .ne 6, 3) := by decide +kernel
theorem dX7_runScript_128 : decode cX7_runScript 128 = .ok (.iload 6, 2) := by decide +kernel
theorem dX7_runScript_130 : decode cX7_runScript 130 = .ok (.ireturn, 1) := by decide +kernel
theorem dX7_runScript_131 : decode cX7_runScript 131 = .ok (.iinc 6 1, 3) := by decide +kernel
theorem dX7_runScript_134 : decode cX7_runScript 134 = .ok (.goto (-48), 3) := by decide +kernel
theorem dX7_runScript_137 : decode cX7_runScript 137 = .ok (.iconst (-1), 1) := by decide +kernel
theorem dX7_runScript_138 : decode cX7_runScript 138 = .ok (.ireturn, 1) := by decide +kernel
set_option maxRecDepth 20000 in
theorem ggX7_turnOf_X7_comeOn : GoodIn wsX7_turnOf wsX7_comeOn := goodIn_r _ [4, 5, 6, 3, 7, 8, 9, 10, 11, 12, 13, 14, 15, 16, 17, 18, 19, 20, 21, 22, 23, 24, 25, 26, 27, 28, 29, 30, 31, 32, 33, 34, 35, 36, 37, 38, 39, 40, 41, 42, 43] rfl (by decide +kernel)
set_option maxRecDepth 20000 in
theorem gX7_turnOf_X7_comeOn : GoodIn wsX7_turnOf (va_wsS RX7 172 yX7_comeOn wsX7_comeOn) := goodIn_app (goodIn_r _ [1, 2, 3] rfl (by decide +kernel)) ggX7_turnOf_X7_comeOn
set_option maxRecDepth 20000 in
theorem ggX7_turnOf_X7_isParked : GoodIn wsX7_turnOf wsX7_isParked := goodIn_r _ [46, 47, 48, 3, 49, 50, 51, 52, 11, 12, 13] rfl (by decide +kernel)
set_option maxRecDepth 20000 in
theorem gX7_turnOf_X7_isParked : GoodIn wsX7_turnOf (va_wsS RX7 125 yX7_isParked wsX7_isParked) := goodIn_app (goodIn_r _ [44, 45, 3] rfl (by decide +kernel)) ggX7_turnOf_X7_isParked
set_option maxRecDepth 20000 in
theorem ggX7_turnOf_X7_goes : GoodIn wsX7_turnOf wsX7_goes := goodIn_r _ [55, 11, 12, 3, 13, 41, 42, 43, 5, 6, 7] rfl (by decide +kernel)
set_option maxRecDepth 20000 in
theorem gX7_turnOf_X7_goes : GoodIn wsX7_turnOf (va_wsS RX7 109 yX7_goes wsX7_goes) := goodIn_app (goodIn_r _ [53, 54, 3] rfl (by decide +kernel)) ggX7_turnOf_X7_goes
set_option maxRecDepth 20000 in
theorem ggX7_turnOf_X7_canHydrant : GoodIn wsX7_turnOf wsX7_canHydrant := goodIn_r _ [58, 59, 60, 3, 61, 62, 50, 51, 52] rfl (by decide +kernel)
set_option maxRecDepth 20000 in
theorem gX7_turnOf_X7_canHydrant : GoodIn wsX7_turnOf (va_wsS RX7 156 yX7_canHydrant wsX7_canHydrant) := goodIn_app (goodIn_r _ [56, 57, 3] rfl (by decide +kernel)) ggX7_turnOf_X7_canHydrant
set_option maxRecDepth 20000 in
theorem ggX7_turnOf_X7_hydrantOn : GoodIn wsX7_turnOf wsX7_hydrantOn := goodIn_r _ [65, 66, 67, 3, 68] rfl (by decide +kernel)
set_option maxRecDepth 20000 in
theorem gX7_turnOf_X7_hydrantOn : GoodIn wsX7_turnOf (va_wsS RX7 160 yX7_hydrantOn wsX7_hydrantOn) := goodIn_app (goodIn_r _ [63, 64, 3] rfl (by decide +kernel)) ggX7_turnOf_X7_hydrantOn
set_option maxRecDepth 20000 in
theorem ggX7_turnOf_X7_minutesOn : GoodIn wsX7_turnOf wsX7_minutesOn := goodIn_r _ [71, 72, 73, 3, 74, 11, 12, 13, 5, 6, 7, 53, 54, 55, 41, 42, 43, 8, 9, 10, 14, 15, 16, 17, 18, 19, 20, 21, 22, 23, 24, 25, 26, 27, 28, 29, 30, 31, 32, 33, 34, 35, 36, 37, 38, 39, 40] rfl (by decide +kernel)
set_option maxRecDepth 20000 in
theorem gX7_turnOf_X7_minutesOn : GoodIn wsX7_turnOf (va_wsS RX7 189 yX7_minutesOn wsX7_minutesOn) := goodIn_app (goodIn_r _ [69, 70, 3] rfl (by decide +kernel)) ggX7_turnOf_X7_minutesOn
set_option maxRecDepth 20000 in
theorem ggX7_turnOf_X7_change : GoodIn wsX7_turnOf wsX7_change := goodIn_r _ [77] rfl (by decide +kernel)
set_option maxRecDepth 20000 in
theorem gX7_turnOf_X7_change : GoodIn wsX7_turnOf (va_wsS RX7 186 yX7_change wsX7_change) := goodIn_app (goodIn_r _ [75, 76, 3] rfl (by decide +kernel)) ggX7_turnOf_X7_change
theorem dX7_turnOf_0 : decode cX7_turnOf 0 = .ok (.iload_n 1, 1) := by decide +kernel
theorem dX7_turnOf_1 : decode cX7_turnOf 1 = .ok (.iconst 3, 1) := by decide +kernel
theorem dX7_turnOf_2 : decode cX7_turnOf 2 = .ok (.if_icmp .ge 34, 3) := by decide +kernel
theorem dX7_turnOf_5 : decode cX7_turnOf 5 = .ok (.aload_n 0, 1) := by decide +kernel
theorem dX7_turnOf_6 : decode cX7_turnOf 6 = .ok (.iconst 0, 1) := by decide +kernel
theorem dX7_turnOf_7 : decode cX7_turnOf 7 = .ok (.iaload, 1) := by decide +kernel
theorem dX7_turnOf_8 : decode cX7_turnOf 8 = .ok (.bipush 40, 2) := by decide +kernel
theorem dX7_turnOf_10 : decode cX7_turnOf 10 = .ok (.if_icmp .ge 152, 3) := by decide +kernel
theorem dX7_turnOf_13 : decode cX7_turnOf 13 = .ok (.aload_n 0, 1) := by decide +kernel
theorem dX7_turnOf_14 : decode cX7_turnOf 14 = .ok (.iconst 2, 1) := by decide +kernel
theorem dX7_turnOf_15 : decode cX7_turnOf 15 = .ok (.iload_n 2, 1) := by decide +kernel
theorem dX7_turnOf_16 : decode cX7_turnOf 16 = .ok (.bipush 7, 2) := by decide +kernel
theorem dX7_turnOf_18 : decode cX7_turnOf 18 = .ok (.irem, 1) := by decide +kernel
theorem dX7_turnOf_19 : decode cX7_turnOf 19 = .ok (.iadd, 1) := by decide +kernel
theorem dX7_turnOf_20 : decode cX7_turnOf 20 = .ok (.iconst 1, 1) := by decide +kernel
theorem dX7_turnOf_21 : decode cX7_turnOf 21 = .ok (.iload_n 2, 1) := by decide +kernel
theorem dX7_turnOf_22 : decode cX7_turnOf 22 = .ok (.bipush 8, 2) := by decide +kernel
theorem dX7_turnOf_24 : decode cX7_turnOf 24 = .ok (.idiv, 1) := by decide +kernel
theorem dX7_turnOf_25 : decode cX7_turnOf 25 = .ok (.bipush 30, 2) := by decide +kernel
theorem dX7_turnOf_27 : decode cX7_turnOf 27 = .ok (.irem, 1) := by decide +kernel
theorem dX7_turnOf_28 : decode cX7_turnOf 28 = .ok (.iadd, 1) := by decide +kernel
theorem dX7_turnOf_29 : decode cX7_turnOf 29 = .ok (.invokestatic 172, 3) := by decide +kernel
theorem dX7_turnOf_32 : decode cX7_turnOf 32 = .ok (.pop, 1) := by decide +kernel
theorem dX7_turnOf_33 : decode cX7_turnOf 33 = .ok (.goto 129, 3) := by decide +kernel
theorem dX7_turnOf_36 : decode cX7_turnOf 36 = .ok (.iload_n 1, 1) := by decide +kernel
theorem dX7_turnOf_37 : decode cX7_turnOf 37 = .ok (.iconst 3, 1) := by decide +kernel
theorem dX7_turnOf_38 : decode cX7_turnOf 38 = .ok (.if_icmp .ne 27, 3) := by decide +kernel
theorem dX7_turnOf_41 : decode cX7_turnOf 41 = .ok (.aload_n 0, 1) := by decide +kernel
theorem dX7_turnOf_42 : decode cX7_turnOf 42 = .ok (.iload_n 2, 1) := by decide +kernel
theorem dX7_turnOf_43 : decode cX7_turnOf 43 = .ok (.bipush 40, 2) := by decide +kernel
theorem dX7_turnOf_45 : decode cX7_turnOf 45 = .ok (.irem, 1) := by decide +kernel
theorem dX7_turnOf_46 : decode cX7_turnOf 46 = .ok (.invokestatic 125, 3) := by decide +kernel
theorem dX7_turnOf_49 : decode cX7_turnOf 49 = .ok (.ifCond .eq 113, 3) := by decide +kernel
theorem dX7_turnOf_52 : decode cX7_turnOf 52 = .ok (.aload_n 0, 1) := by decide +kernel
theorem dX7_turnOf_53 : decode cX7_turnOf 53 = .ok (.iload_n 2, 1) := by decide +kernel
theorem dX7_turnOf_54 : decode cX7_turnOf 54 = .ok (.bipush 40, 2) := by decide +kernel
theorem dX7_turnOf_56 : decode cX7_turnOf 56 = .ok (.irem, 1) := by decide +kernel
theorem dX7_turnOf_57 : decode cX7_turnOf 57 = .ok (.iconst 2, 1) := by decide +kernel
theorem dX7_turnOf_58 : decode cX7_turnOf 58 = .ok (.invokestatic 109, 3) := by decide +kernel
theorem dX7_turnOf_61 : decode cX7_turnOf 61 = .ok (.pop, 1) := by decide +kernel
theorem dX7_turnOf_62 : decode cX7_turnOf 62 = .ok (.goto 100, 3) := by decide +kernel
theorem dX7_turnOf_65 : decode cX7_turnOf 65 = .ok (.iload_n 1, 1) := by decide +kernel
theorem dX7_turnOf_66 : decode cX7_turnOf 66 = .ok (.iconst 4, 1) := by decide +kernel
theorem dX7_turnOf_67 : decode cX7_turnOf 67 = .ok (.if_icmp .ne 44, 3) := by decide +kernel
theorem dX7_turnOf_70 : decode cX7_turnOf 70 = .ok (.iload_n 2, 1) := by decide +kernel
theorem dX7_turnOf_71 : decode cX7_turnOf 71 = .ok (.sipush 128, 3) := by decide +kernel
theorem dX7_turnOf_74 : decode cX7_turnOf 74 = .ok (.idiv, 1) := by decide +kernel
theorem dX7_turnOf_75 : decode cX7_turnOf 75 = .ok (.iconst 3, 1) := by decide +kernel
theorem dX7_turnOf_76 : decode cX7_turnOf 76 = .ok (.irem, 1) := by decide +kernel
theorem dX7_turnOf_77 : decode cX7_turnOf 77 = .ok (.ifCond .eq 7, 3) := by decide +kernel
theorem dX7_turnOf_80 : decode cX7_turnOf 80 = .ok (.iconst 1, 1) := by decide +kernel
theorem dX7_turnOf_81 : decode cX7_turnOf 81 = .ok (.goto 4, 3) := by decide +kernel
theorem dX7_turnOf_84 : decode cX7_turnOf 84 = .ok (.iconst 0, 1) := by decide +kernel
theorem dX7_turnOf_85 : decode cX7_turnOf 85 = .ok (.istore_n 3, 1) := by decide +kernel
theorem dX7_turnOf_86 : decode cX7_turnOf 86 = .ok (.aload_n 0, 1) := by decide +kernel
theorem dX7_turnOf_87 : decode cX7_turnOf 87 = .ok (.iload_n 2, 1) := by decide +kernel
theorem dX7_turnOf_88 : decode cX7_turnOf 88 = .ok (.bipush 80, 2) := by decide +kernel
theorem dX7_turnOf_90 : decode cX7_turnOf 90 = .ok (.irem, 1) := by decide +kernel
theorem dX7_turnOf_91 : decode cX7_turnOf 91 = .ok (.iload_n 3, 1) := by decide +kernel
theorem dX7_turnOf_92 : decode cX7_turnOf 92 = .ok (.invokestatic 156, 3) := by decide +kernel
theorem dX7_turnOf_95 : decode cX7_turnOf 95 = .ok (.ifCond .eq 13, 3) := by decide +kernel
theorem dX7_turnOf_98 : decode cX7_turnOf 98 = .ok (.aload_n 0, 1) := by decide +kernel
theorem dX7_turnOf_99 : decode cX7_turnOf 99 = .ok (.iload_n 2, 1) := by decide +kernel
theorem dX7_turnOf_100 : decode cX7_turnOf 100 = .ok (.bipush 80, 2) := by decide +kernel
theorem dX7_turnOf_102 : decode cX7_turnOf 102 = .ok (.irem, 1) := by decide +kernel
theorem dX7_turnOf_103 : decode cX7_turnOf 103 = .ok (.iload_n 3, 1) := by decide +kernel
theorem dX7_turnOf_104 : decode cX7_turnOf 104 = .ok (.invokestatic 160, 3) := by decide +kernel
theorem dX7_turnOf_107 : decode cX7_turnOf 107 = .ok (.pop, 1) := by decide +kernel
theorem dX7_turnOf_108 : decode cX7_turnOf 108 = .ok (.goto 54, 3) := by decide +kernel
theorem dX7_turnOf_111 : decode cX7_turnOf 111 = .ok (.iload_n 1, 1) := by decide +kernel
theorem dX7_turnOf_112 : decode cX7_turnOf 112 = .ok (.iconst 5, 1) := by decide +kernel
theorem dX7_turnOf_113 : decode cX7_turnOf 113 = .ok (.if_icmp .le 17, 3) := by decide +kernel
theorem dX7_turnOf_116 : decode cX7_turnOf 116 = .ok (.aload_n 0, 1) := by decide +kernel
theorem dX7_turnOf_117 : decode cX7_turnOf 117 = .ok (.iconst 1, 1) := by decide +kernel
theorem dX7_turnOf_118 : decode cX7_turnOf 118 = .ok (.iload_n 2, 1) := by decide +kernel
theorem dX7_turnOf_119 : decode cX7_turnOf 119 = .ok (.bipush 9, 2) := by decide +kernel
theorem dX7_turnOf_121 : decode cX7_turnOf 121 = .ok (.irem, 1) := by decide +kernel
theorem dX7_turnOf_122 : decode cX7_turnOf 122 = .ok (.iadd, 1) := by decide +kernel
theorem dX7_turnOf_123 : decode cX7_turnOf 123 = .ok (.invokestatic 189, 3) := by decide +kernel
theorem dX7_turnOf_126 : decode cX7_turnOf 126 = .ok (.pop, 1) := by decide +kernel
theorem dX7_turnOf_127 : decode cX7_turnOf 127 = .ok (.goto 35, 3) := by decide +kernel
theorem dX7_turnOf_130 : decode cX7_turnOf 130 = .ok (.iload_n 2, 1) := by decide +kernel
theorem dX7_turnOf_131 : decode cX7_turnOf 131 = .ok (.iconst 4, 1) := by decide +kernel
theorem dX7_turnOf_132 : decode cX7_turnOf 132 = .ok (.idiv, 1) := by decide +kernel
theorem dX7_turnOf_133 : decode cX7_turnOf 133 = .ok (.iconst 2, 1) := by decide +kernel
theorem dX7_turnOf_134 : decode cX7_turnOf 134 = .ok (.irem, 1) := by decide +kernel
theorem dX7_turnOf_135 : decode cX7_turnOf 135 = .ok (.ifCond .ne 15, 3) := by decide +kernel
theorem dX7_turnOf_138 : decode cX7_turnOf 138 = .ok (.aload_n 0, 1) := by decide +kernel
theorem dX7_turnOf_139 : decode cX7_turnOf 139 = .ok (.iconst 0, 1) := by decide +kernel
theorem dX7_turnOf_140 : decode cX7_turnOf 140 = .ok (.iload_n 2, 1) := by decide +kernel
theorem dX7_turnOf_141 : decode cX7_turnOf 141 = .ok (.iconst 3, 1) := by decide +kernel
theorem dX7_turnOf_142 : decode cX7_turnOf 142 = .ok (.irem, 1) := by decide +kernel
theorem dX7_turnOf_143 : decode cX7_turnOf 143 = .ok (.invokestatic 186, 3) := by decide +kernel
theorem dX7_turnOf_146 : decode cX7_turnOf 146 = .ok (.pop, 1) := by decide +kernel
theorem dX7_turnOf_147 : decode cX7_turnOf 147 = .ok (.goto 15, 3) := by decide +kernel
theorem dX7_turnOf_150 : decode cX7_turnOf 150 = .ok (.aload_n 0, 1) := by decide +kernel
theorem dX7_turnOf_151 : decode cX7_turnOf 151 = .ok (.iconst 1, 1) := by decide +kernel
theorem dX7_turnOf_152 : decode cX7_turnOf 152 = .ok (.iload_n 2, 1) := by decide +kernel
theorem dX7_turnOf_153 : decode cX7_turnOf 153 = .ok (.bipush 8, 2) := by decide +kernel
theorem dX7_turnOf_155 : decode cX7_turnOf 155 = .ok (.idiv, 1) := by decide +kernel
theorem dX7_turnOf_156 : decode cX7_turnOf 156 = .ok (.iconst 5, 1) := by decide +kernel
theorem dX7_turnOf_157 : decode cX7_turnOf 157 = .ok (.irem, 1) := by decide +kernel
theorem dX7_turnOf_158 : decode cX7_turnOf 158 = .ok (.invokestatic 186, 3) := by decide +kernel
theorem dX7_turnOf_161 : decode cX7_turnOf 161 = .ok (.pop, 1) := by decide +kernel
theorem dX7_turnOf_162 : decode cX7_turnOf 162 = .ok (.return_, 1) := by decide +kernel
set_option maxRecDepth 20000 in
theorem ggX7_simulate_X7_in : GoodIn wsX7_simulate wsX7_in := goodIn_r _ [9] rfl (by decide +kernel)
set_option maxRecDepth 20000 in
theorem gX7_simulate_X7_in : GoodIn wsX7_simulate (va_wsS RX7 40 yX7_in wsX7_in) := goodIn_app (goodIn_r _ [6, 7, 8] rfl (by decide +kernel)) ggX7_simulate_X7_in
set_option maxRecDepth 20000 in
theorem ggX7_simulate_X7_refused : GoodIn wsX7_simulate wsX7_refused := goodIn_r _ [13, 14, 95, 96, 97, 98, 99, 100, 101, 102, 103, 104, 105, 106] rfl (by decide +kernel)
set_option maxRecDepth 20000 in
theorem gX7_simulate_X7_refused : GoodIn wsX7_simulate (wsV RX7 137 RX7 yX7_refused wsX7_refused) := goodIn_app (goodIn_r _ [10, 11, 12, 8] rfl (by decide +kernel)) ggX7_simulate_X7_refused
set_option maxRecDepth 20000 in
theorem ggX7_simulate_X7_copyState : GoodIn wsX7_simulate wsX7_copyState := goodIn_r _ [17] rfl (by decide +kernel)
set_option maxRecDepth 20000 in
theorem gX7_simulate_X7_copyState : GoodIn wsX7_simulate (va_wsS RX7 198 yX7_copyState wsX7_copyState) := goodIn_app (goodIn_r _ [15, 16, 8] rfl (by decide +kernel)) ggX7_simulate_X7_copyState
set_option maxRecDepth 20000 in
theorem ggX7_simulate_X7_turnOf : GoodIn wsX7_simulate wsX7_turnOf := goodIn_r _ [20, 21, 22, 8, 23, 24, 25, 26, 27, 28, 29, 30, 31, 32, 33, 34, 35, 36, 37, 38, 4, 5, 39, 40, 41, 42, 43, 44, 45, 46, 47, 48, 49, 50, 51, 52, 53, 54, 55, 56, 57, 58, 59, 60, 61, 62, 63, 64, 65, 66, 6, 7, 9, 67, 68, 69, 70, 71, 72, 73, 74, 75, 76, 77, 78, 79, 80, 81, 82, 83, 84, 85, 86, 87, 88, 89, 90, 91] rfl (by decide +kernel)
set_option maxRecDepth 20000 in
theorem gX7_simulate_X7_turnOf : GoodIn wsX7_simulate (va_wsS RX7 250 yX7_turnOf wsX7_turnOf) := goodIn_app (goodIn_r _ [18, 19, 8] rfl (by decide +kernel)) ggX7_simulate_X7_turnOf
set_option maxRecDepth 20000 in
theorem ggX7_simulate_X7_many : GoodIn wsX7_simulate wsX7_many := goodIn_r _ [94, 30, 31, 8, 32] rfl (by decide +kernel)
set_option maxRecDepth 20000 in
theorem gX7_simulate_X7_many : GoodIn wsX7_simulate (va_wsS RX7 210 yX7_many wsX7_many) := goodIn_app (goodIn_r _ [92, 93, 8] rfl (by decide +kernel)) ggX7_simulate_X7_many
set_option maxRecDepth 20000 in
theorem ggX7_simulate_X7_cellsWith : GoodIn wsX7_simulate wsX7_cellsWith := goodIn_r _ [82] rfl (by decide +kernel)
set_option maxRecDepth 20000 in
theorem gX7_simulate_X7_cellsWith : GoodIn wsX7_simulate (va_wsS RX7 122 yX7_cellsWith wsX7_cellsWith) := goodIn_app (goodIn_r _ [80, 81, 8] rfl (by decide +kernel)) ggX7_simulate_X7_cellsWith
theorem dX7_simulate_0 : decode cX7_simulate 0 = .ok (.aload_n 0, 1) := by decide +kernel
theorem dX7_simulate_1 : decode cX7_simulate 1 = .ok (.iload_n 3, 1) := by decide +kernel
theorem dX7_simulate_2 : decode cX7_simulate 2 = .ok (.i2l, 1) := by decide +kernel
theorem dX7_simulate_3 : decode cX7_simulate 3 = .ok (.lconst 1, 1) := by decide +kernel
theorem dX7_simulate_4 : decode cX7_simulate 4 = .ok (.ldc2_w 226, 3) := by decide +kernel
theorem dX7_simulate_7 : decode cX7_simulate 7 = .ok (.invokestatic 40, 3) := by decide +kernel
theorem dX7_simulate_10 : decode cX7_simulate 10 = .ok (.ifCond .eq 7, 3) := by decide +kernel
theorem dX7_simulate_13 : decode cX7_simulate 13 = .ok (.iconst 0, 1) := by decide +kernel
theorem dX7_simulate_14 : decode cX7_simulate 14 = .ok (.goto 4, 3) := by decide +kernel
theorem dX7_simulate_17 : decode cX7_simulate 17 = .ok (.iconst 1, 1) := by decide +kernel
theorem dX7_simulate_18 : decode cX7_simulate 18 = .ok (.invokevirtual 137, 3) := by decide +kernel
theorem dX7_simulate_21 : decode cX7_simulate 21 = .ok (.ifCond .eq 5, 3) := by decide +kernel
theorem dX7_simulate_24 : decode cX7_simulate 24 = .ok (.iconst 0, 1) := by decide +kernel
theorem dX7_simulate_25 : decode cX7_simulate 25 = .ok (.ireturn, 1) := by decide +kernel
theorem dX7_simulate_26 : decode cX7_simulate 26 = .ok (.aload_n 0, 1) := by decide +kernel
theorem dX7_simulate_27 : decode cX7_simulate 27 = .ok (.getfield 13, 3) := by decide +kernel
theorem dX7_simulate_30 : decode cX7_simulate 30 = .ok (.iconst 0, 1) := by decide +kernel
theorem dX7_simulate_31 : decode cX7_simulate 31 = .ok (.aload_n 0, 1) := by decide +kernel
theorem dX7_simulate_32 : decode cX7_simulate 32 = .ok (.getfield 16, 3) := by decide +kernel
theorem dX7_simulate_35 : decode cX7_simulate 35 = .ok (.iconst 0, 1) := by decide +kernel
theorem dX7_simulate_36 : decode cX7_simulate 36 = .ok (.invokestatic 198, 3) := by decide +kernel
theorem dX7_simulate_39 : decode cX7_simulate 39 = .ok (.lload_n 1, 1) := by decide +kernel
theorem dX7_simulate_40 : decode cX7_simulate 40 = .ok (.lstore 4, 2) := by decide +kernel
theorem dX7_simulate_42 : decode cX7_simulate 42 = .ok (.iconst 0, 1) := by decide +kernel
theorem dX7_simulate_43 : decode cX7_simulate 43 = .ok (.istore 6, 2) := by decide +kernel
theorem dX7_simulate_45 : decode cX7_simulate 45 = .ok (.iload 6, 2) := by decide +kernel
theorem dX7_simulate_47 : decode cX7_simulate 47 = .ok (.iload_n 3, 1) := by decide +kernel
theorem dX7_simulate_48 : decode cX7_simulate 48 = .ok (.if_icmp .ge 46, 3) := by decide +kernel
theorem dX7_simulate_51 : decode cX7_simulate 51 = .ok (.lload 4, 2) := by decide +kernel
theorem dX7_simulate_53 : decode cX7_simulate 53 = .ok (.ldc2_w 85, 3) := by decide +kernel
theorem dX7_simulate_56 : decode cX7_simulate 56 = .ok (.lmul, 1) := by decide +kernel
theorem dX7_simulate_57 : decode cX7_simulate 57 = .ok (.ldc2_w 87, 3) := by decide +kernel
theorem dX7_simulate_60 : decode cX7_simulate 60 = .ok (.ladd, 1) := by decide +kernel
theorem dX7_simulate_61 : decode cX7_simulate 61 = .ok (.lstore 4, 2) := by decide +kernel
theorem dX7_simulate_63 : decode cX7_simulate 63 = .ok (.lload 4, 2) := by decide +kernel
theorem dX7_simulate_65 : decode cX7_simulate 65 = .ok (.bipush 33, 2) := by decide +kernel
theorem dX7_simulate_67 : decode cX7_simulate 67 = .ok (.lushr, 1) := by decide +kernel
theorem dX7_simulate_68 : decode cX7_simulate 68 = .ok (.l2i, 1) := by decide +kernel
theorem dX7_simulate_69 : decode cX7_simulate 69 = .ok (.istore 7, 2) := by decide +kernel
theorem dX7_simulate_71 : decode cX7_simulate 71 = .ok (.aload_n 0, 1) := by decide +kernel
theorem dX7_simulate_72 : decode cX7_simulate 72 = .ok (.getfield 16, 3) := by decide +kernel
theorem dX7_simulate_75 : decode cX7_simulate 75 = .ok (.iload 7, 2) := by decide +kernel
theorem dX7_simulate_77 : decode cX7_simulate 77 = .ok (.bipush 8, 2) := by decide +kernel
theorem dX7_simulate_79 : decode cX7_simulate 79 = .ok (.irem, 1) := by decide +kernel
theorem dX7_simulate_80 : decode cX7_simulate 80 = .ok (.iload 7, 2) := by decide +kernel
theorem dX7_simulate_82 : decode cX7_simulate 82 = .ok (.bipush 8, 2) := by decide +kernel
theorem dX7_simulate_84 : decode cX7_simulate 84 = .ok (.idiv, 1) := by decide +kernel
theorem dX7_simulate_85 : decode cX7_simulate 85 = .ok (.invokestatic 250, 3) := by decide +kernel
theorem dX7_simulate_88 : decode cX7_simulate 88 = .ok (.iinc 6 1, 3) := by decide +kernel
theorem dX7_simulate_91 : decode cX7_simulate 91 = .ok (.goto (-46), 3) := by decide +kernel
theorem dX7_simulate_94 : decode cX7_simulate 94 = .ok (.sipush 10000, 3) := by decide +kernel
theorem dX7_simulate_97 : decode cX7_simulate 97 = .ok (.aload_n 0, 1) := by decide +kernel
theorem dX7_simulate_98 : decode cX7_simulate 98 = .ok (.getfield 16, 3) := by decide +kernel
theorem dX7_simulate_101 : decode cX7_simulate 101 = .ok (.iconst 0, 1) := by decide +kernel
theorem dX7_simulate_102 : decode cX7_simulate 102 = .ok (.invokestatic 210, 3) := by decide +kernel
theorem dX7_simulate_105 : decode cX7_simulate 105 = .ok (.imul, 1) := by decide +kernel
theorem dX7_simulate_106 : decode cX7_simulate 106 = .ok (.bipush 100, 2) := by decide +kernel
theorem dX7_simulate_108 : decode cX7_simulate 108 = .ok (.aload_n 0, 1) := by decide +kernel
theorem dX7_simulate_109 : decode cX7_simulate 109 = .ok (.getfield 16, 3) := by decide +kernel
theorem dX7_simulate_112 : decode cX7_simulate 112 = .ok (.iconst 3, 1) := by decide +kernel
theorem dX7_simulate_113 : decode cX7_simulate 113 = .ok (.invokestatic 210, 3) := by decide +kernel
theorem dX7_simulate_116 : decode cX7_simulate 116 = .ok (.aload_n 0, 1) := by decide +kernel
theorem dX7_simulate_117 : decode cX7_simulate 117 = .ok (.getfield 13, 3) := by decide +kernel
theorem dX7_simulate_120 : decode cX7_simulate 120 = .ok (.iconst 3, 1) := by decide +kernel
theorem dX7_simulate_121 : decode cX7_simulate 121 = .ok (.invokestatic 210, 3) := by decide +kernel
theorem dX7_simulate_124 : decode cX7_simulate 124 = .ok (.isub, 1) := by decide +kernel
theorem dX7_simulate_125 : decode cX7_simulate 125 = .ok (.imul, 1) := by decide +kernel
theorem dX7_simulate_126 : decode cX7_simulate 126 = .ok (.iadd, 1) := by decide +kernel
theorem dX7_simulate_127 : decode cX7_simulate 127 = .ok (.aload_n 0, 1) := by decide +kernel
theorem dX7_simulate_128 : decode cX7_simulate 128 = .ok (.getfield 16, 3) := by decide +kernel
theorem dX7_simulate_131 : decode cX7_simulate 131 = .ok (.iconst (-1), 1) := by decide +kernel
theorem dX7_simulate_132 : decode cX7_simulate 132 = .ok (.invokestatic 122, 3) := by decide +kernel
theorem dX7_simulate_135 : decode cX7_simulate 135 = .ok (.iadd, 1) := by decide +kernel
theorem dX7_simulate_136 : decode cX7_simulate 136 = .ok (.ireturn, 1) := by decide +kernel
set_option maxRecDepth 20000 in
theorem ggX7_save_X7_in : GoodIn wsX7_save wsX7_in := goodIn_r _ [7] rfl (by decide +kernel)
set_option maxRecDepth 20000 in
theorem gX7_save_X7_in : GoodIn wsX7_save (va_wsS RX7 40 yX7_in wsX7_in) := goodIn_app (goodIn_r _ [4, 5, 6] rfl (by decide +kernel)) ggX7_save_X7_in
set_option maxRecDepth 20000 in
theorem ggX7_save_X7_refused : GoodIn wsX7_save wsX7_refused := goodIn_r _ [11, 12, 16, 17, 18, 19, 20, 21, 22, 23, 24, 25, 26, 27] rfl (by decide +kernel)
set_option maxRecDepth 20000 in
theorem gX7_save_X7_refused : GoodIn wsX7_save (wsV RX7 137 RX7 yX7_refused wsX7_refused) := goodIn_app (goodIn_r _ [8, 9, 10, 6] rfl (by decide +kernel)) ggX7_save_X7_refused
set_option maxRecDepth 20000 in
theorem ggX7_save_X7_copyState : GoodIn wsX7_save wsX7_copyState := goodIn_r _ [15] rfl (by decide +kernel)
set_option maxRecDepth 20000 in
theorem gX7_save_X7_copyState : GoodIn wsX7_save (va_wsS RX7 198 yX7_copyState wsX7_copyState) := goodIn_app (goodIn_r _ [13, 14, 6] rfl (by decide +kernel)) ggX7_save_X7_copyState
theorem dX7_save_0 : decode cX7_save 0 = .ok (.aload_n 0, 1) := by decide +kernel
theorem dX7_save_1 : decode cX7_save 1 = .ok (.iload_n 1, 1) := by decide +kernel
theorem dX7_save_2 : decode cX7_save 2 = .ok (.i2l, 1) := by decide +kernel
theorem dX7_save_3 : decode cX7_save 3 = .ok (.lconst 0, 1) := by decide +kernel
theorem dX7_save_4 : decode cX7_save 4 = .ok (.lconst 1, 1) := by decide +kernel
theorem dX7_save_5 : decode cX7_save 5 = .ok (.invokestatic 40, 3) := by decide +kernel
theorem dX7_save_8 : decode cX7_save 8 = .ok (.ifCond .eq 7, 3) := by decide +kernel
theorem dX7_save_11 : decode cX7_save 11 = .ok (.iconst 0, 1) := by decide +kernel
theorem dX7_save_12 : decode cX7_save 12 = .ok (.goto 4, 3) := by decide +kernel
theorem dX7_save_15 : decode cX7_save 15 = .ok (.iconst 1, 1) := by decide +kernel
theorem dX7_save_16 : decode cX7_save 16 = .ok (.invokevirtual 137, 3) := by decide +kernel
theorem dX7_save_19 : decode cX7_save 19 = .ok (.ifCond .eq 5, 3) := by decide +kernel
theorem dX7_save_22 : decode cX7_save 22 = .ok (.iconst 0, 1) := by decide +kernel
theorem dX7_save_23 : decode cX7_save 23 = .ok (.ireturn, 1) := by decide +kernel
theorem dX7_save_24 : decode cX7_save 24 = .ok (.aload_n 0, 1) := by decide +kernel
theorem dX7_save_25 : decode cX7_save 25 = .ok (.getfield 13, 3) := by decide +kernel
theorem dX7_save_28 : decode cX7_save 28 = .ok (.iconst 0, 1) := by decide +kernel
theorem dX7_save_29 : decode cX7_save 29 = .ok (.aload_n 0, 1) := by decide +kernel
theorem dX7_save_30 : decode cX7_save 30 = .ok (.getfield 25, 3) := by decide +kernel
theorem dX7_save_33 : decode cX7_save 33 = .ok (.sipush 327, 3) := by decide +kernel
theorem dX7_save_36 : decode cX7_save 36 = .ok (.iload_n 1, 1) := by decide +kernel
theorem dX7_save_37 : decode cX7_save 37 = .ok (.imul, 1) := by decide +kernel
theorem dX7_save_38 : decode cX7_save 38 = .ok (.invokestatic 198, 3) := by decide +kernel
theorem dX7_save_41 : decode cX7_save 41 = .ok (.aload_n 0, 1) := by decide +kernel
theorem dX7_save_42 : decode cX7_save 42 = .ok (.getfield 28, 3) := by decide +kernel
theorem dX7_save_45 : decode cX7_save 45 = .ok (.iload_n 1, 1) := by decide +kernel
theorem dX7_save_46 : decode cX7_save 46 = .ok (.iconst 1, 1) := by decide +kernel
theorem dX7_save_47 : decode cX7_save 47 = .ok (.bastore, 1) := by decide +kernel
theorem dX7_save_48 : decode cX7_save 48 = .ok (.aload_n 0, 1) := by decide +kernel
theorem dX7_save_49 : decode cX7_save 49 = .ok (.getfield 13, 3) := by decide +kernel
theorem dX7_save_52 : decode cX7_save 52 = .ok (.iconst 1, 1) := by decide +kernel
theorem dX7_save_53 : decode cX7_save 53 = .ok (.iaload, 1) := by decide +kernel
theorem dX7_save_54 : decode cX7_save 54 = .ok (.ireturn, 1) := by decide +kernel
set_option maxRecDepth 20000 in
theorem ggX7_restore_X7_in : GoodIn wsX7_restore wsX7_in := goodIn_r _ [8] rfl (by decide +kernel)
set_option maxRecDepth 20000 in
theorem gX7_restore_X7_in : GoodIn wsX7_restore (va_wsS RX7 40 yX7_in wsX7_in) := goodIn_app (goodIn_r _ [5, 6, 7] rfl (by decide +kernel)) ggX7_restore_X7_in
set_option maxRecDepth 20000 in
theorem ggX7_restore_X7_refused : GoodIn wsX7_restore wsX7_refused := goodIn_r _ [12, 13, 17, 18, 19, 20, 21, 22, 23, 24, 25, 26, 27, 28] rfl (by decide +kernel)
set_option maxRecDepth 20000 in
theorem gX7_restore_X7_refused : GoodIn wsX7_restore (wsV RX7 137 RX7 yX7_refused wsX7_refused) := goodIn_app (goodIn_r _ [9, 10, 11, 7] rfl (by decide +kernel)) ggX7_restore_X7_refused
set_option maxRecDepth 20000 in
theorem ggX7_restore_X7_copyState : GoodIn wsX7_restore wsX7_copyState := goodIn_r _ [16] rfl (by decide +kernel)
set_option maxRecDepth 20000 in
theorem gX7_restore_X7_copyState : GoodIn wsX7_restore (va_wsS RX7 198 yX7_copyState wsX7_copyState) := goodIn_app (goodIn_r _ [14, 15, 7] rfl (by decide +kernel)) ggX7_restore_X7_copyState
theorem dX7_restore_0 : decode cX7_restore 0 = .ok (.aload_n 0, 1) := by decide +kernel
theorem dX7_restore_1 : decode cX7_restore 1 = .ok (.iload_n 1, 1) := by decide +kernel
theorem dX7_restore_2 : decode cX7_restore 2 = .ok (.i2l, 1) := by decide +kernel
theorem dX7_restore_3 : decode cX7_restore 3 = .ok (.lconst 0, 1) := by decide +kernel
theorem dX7_restore_4 : decode cX7_restore 4 = .ok (.lconst 1, 1) := by decide +kernel
theorem dX7_restore_5 : decode cX7_restore 5 = .ok (.invokestatic 40, 3) := by decide +kernel
theorem dX7_restore_8 : decode cX7_restore 8 = .ok (.ifCond .ne 7, 3) := by decide +kernel
theorem dX7_restore_11 : decode cX7_restore 11 = .ok (.iconst 1, 1) := by decide +kernel
theorem dX7_restore_12 : decode cX7_restore 12 = .ok (.goto 17, 3) := by decide +kernel
theorem dX7_restore_15 : decode cX7_restore 15 = .ok (.aload_n 0, 1) := by decide +kernel
theorem dX7_restore_16 : decode cX7_restore 16 = .ok (.getfield 28, 3) := by decide +kernel
theorem dX7_restore_19 : decode cX7_restore 19 = .ok (.iload_n 1, 1) := by decide +kernel
theorem dX7_restore_20 : decode cX7_restore 20 = .ok (.baload, 1) := by decide +kernel
theorem dX7_restore_21 : decode cX7_restore 21 = .ok (.ifCond .ne 7, 3) := by decide +kernel
theorem dX7_restore_24 : decode cX7_restore 24 = .ok (.iconst 2, 1) := by decide +kernel
theorem dX7_restore_25 : decode cX7_restore 25 = .ok (.goto 4, 3) := by decide +kernel
theorem dX7_restore_28 : decode cX7_restore 28 = .ok (.iconst 0, 1) := by decide +kernel
theorem dX7_restore_29 : decode cX7_restore 29 = .ok (.invokevirtual 137, 3) := by decide +kernel
theorem dX7_restore_32 : decode cX7_restore 32 = .ok (.ifCond .eq 5, 3) := by decide +kernel
theorem dX7_restore_35 : decode cX7_restore 35 = .ok (.iconst 0, 1) := by decide +kernel
theorem dX7_restore_36 : decode cX7_restore 36 = .ok (.ireturn, 1) := by decide +kernel
theorem dX7_restore_37 : decode cX7_restore 37 = .ok (.aload_n 0, 1) := by decide +kernel
theorem dX7_restore_38 : decode cX7_restore 38 = .ok (.getfield 25, 3) := by decide +kernel
theorem dX7_restore_41 : decode cX7_restore 41 = .ok (.sipush 327, 3) := by decide +kernel
theorem dX7_restore_44 : decode cX7_restore 44 = .ok (.iload_n 1, 1) := by decide +kernel
theorem dX7_restore_45 : decode cX7_restore 45 = .ok (.imul, 1) := by decide +kernel
theorem dX7_restore_46 : decode cX7_restore 46 = .ok (.aload_n 0, 1) := by decide +kernel
theorem dX7_restore_47 : decode cX7_restore 47 = .ok (.getfield 13, 3) := by decide +kernel
theorem dX7_restore_50 : decode cX7_restore 50 = .ok (.iconst 0, 1) := by decide +kernel
theorem dX7_restore_51 : decode cX7_restore 51 = .ok (.invokestatic 198, 3) := by decide +kernel
theorem dX7_restore_54 : decode cX7_restore 54 = .ok (.aload_n 0, 1) := by decide +kernel
theorem dX7_restore_55 : decode cX7_restore 55 = .ok (.iconst 0, 1) := by decide +kernel
theorem dX7_restore_56 : decode cX7_restore 56 = .ok (.putfield 202, 3) := by decide +kernel
theorem dX7_restore_59 : decode cX7_restore 59 = .ok (.aload_n 0, 1) := by decide +kernel
theorem dX7_restore_60 : decode cX7_restore 60 = .ok (.getfield 13, 3) := by decide +kernel
theorem dX7_restore_63 : decode cX7_restore 63 = .ok (.iconst 1, 1) := by decide +kernel
theorem dX7_restore_64 : decode cX7_restore 64 = .ok (.iaload, 1) := by decide +kernel
theorem dX7_restore_65 : decode cX7_restore 65 = .ok (.ireturn, 1) := by decide +kernel
theorem dJ7_fill_53178_0 : decode cJ7_fill_53178 0 = .ok (.iconst 0, 1) := by decide +kernel
theorem dJ7_fill_53178_1 : decode cJ7_fill_53178 1 = .ok (.istore_n 2, 1) := by decide +kernel
theorem dJ7_fill_53178_2 : decode cJ7_fill_53178 2 = .ok (.aload_n 0, 1) := by decide +kernel
theorem dJ7_fill_53178_3 : decode cJ7_fill_53178 3 = .ok (.arraylength, 1) := by decide +kernel
theorem dJ7_fill_53178_4 : decode cJ7_fill_53178 4 = .ok (.istore_n 3, 1) := by decide +kernel
theorem dJ7_fill_53178_5 : decode cJ7_fill_53178 5 = .ok (.iload_n 2, 1) := by decide +kernel
theorem dJ7_fill_53178_6 : decode cJ7_fill_53178 6 = .ok (.iload_n 3, 1) := by decide +kernel
theorem dJ7_fill_53178_7 : decode cJ7_fill_53178 7 = .ok (.if_icmp .ge 13, 3) := by decide +kernel
theorem dJ7_fill_53178_10 : decode cJ7_fill_53178 10 = .ok (.aload_n 0, 1) := by decide +kernel
theorem dJ7_fill_53178_11 : decode cJ7_fill_53178 11 = .ok (.iload_n 2, 1) := by decide +kernel
theorem dJ7_fill_53178_12 : decode cJ7_fill_53178 12 = .ok (.iload_n 1, 1) := by decide +kernel
theorem dJ7_fill_53178_13 : decode cJ7_fill_53178 13 = .ok (.iastore, 1) := by decide +kernel
theorem dJ7_fill_53178_14 : decode cJ7_fill_53178 14 = .ok (.iinc 2 1, 3) := by decide +kernel
theorem dJ7_fill_53178_17 : decode cJ7_fill_53178 17 = .ok (.goto (-12), 3) := by decide +kernel
theorem dJ7_fill_53178_20 : decode cJ7_fill_53178 20 = .ok (.return_, 1) := by decide +kernel
set_option maxRecDepth 20000 in
theorem ggL_append_X6_append : GoodIn wsL_append wsX6_append := goodIn_ca (goodIn_ca (goodIn_r _ [7, 8, 9, 10, 11, 12, 13, 14, 15, 16, 17, 18, 19, 20, 21, 22, 23, 24, 25, 26, 27, 28] rfl (by decide +kernel)) (goodIn_sub (fun _ h => List.mem_cons_of_mem _ (List.mem_append_left _ (List.mem_append_right _ h))) (by decide +kernel))) (goodIn_sub (fun _ h => List.mem_cons_of_mem _ (List.mem_append_right _ h)) (by decide +kernel))
set_option maxRecDepth 20000 in
theorem gL_append_X6_append : GoodIn wsL_append (wsV RL 7 RX6 yX6_append wsX6_append) := goodIn_app (goodIn_r _ [3, 4, 5, 6] rfl (by decide +kernel)) ggL_append_X6_append
theorem dL_append_0 : decode cL_append 0 = .ok (.aload_n 2, 1) := by decide +kernel
theorem dL_append_1 : decode cL_append 1 = .ok (.iconst 0, 1) := by decide +kernel
theorem dL_append_2 : decode cL_append 2 = .ok (.aload_n 0, 1) := by decide +kernel
theorem dL_append_3 : decode cL_append 3 = .ok (.iload_n 1, 1) := by decide +kernel
theorem dL_append_4 : decode cL_append 4 = .ok (.invokevirtual 7, 3) := by decide +kernel
theorem dL_append_7 : decode cL_append 7 = .ok (.i2l, 1) := by decide +kernel
theorem dL_append_8 : decode cL_append 8 = .ok (.lastore, 1) := by decide +kernel
theorem dL_append_9 : decode cL_append 9 = .ok (.goto 9, 3) := by decide +kernel
theorem dL_append_12 : decode cL_append 12 = .ok (.astore_n 3, 1) := by decide +kernel
theorem dL_append_13 : decode cL_append 13 = .ok (.iconst 1, 1) := by decide +kernel
theorem dL_append_14 : decode cL_append 14 = .ok (.ireturn, 1) := by decide +kernel
theorem dL_append_15 : decode cL_append 15 = .ok (.astore_n 3, 1) := by decide +kernel
theorem dL_append_16 : decode cL_append 16 = .ok (.iconst 2, 1) := by decide +kernel
theorem dL_append_17 : decode cL_append 17 = .ok (.ireturn, 1) := by decide +kernel
theorem dL_append_18 : decode cL_append 18 = .ok (.iconst 0, 1) := by decide +kernel
theorem dL_append_19 : decode cL_append 19 = .ok (.ireturn, 1) := by decide +kernel
set_option maxRecDepth 20000 in
theorem ggL_load_X6_load : GoodIn wsL_load wsX6_load := goodIn_ca (goodIn_r _ [6, 7, 8, 9, 10, 11, 12, 13, 14, 15, 16, 17, 18, 19, 20, 21, 22, 23, 24, 25, 26, 27, 28, 29, 30, 31, 32, 33, 34, 35, 36, 37, 38, 39, 40, 41, 42, 43, 44, 45, 46, 47, 48, 49, 50, 51, 52, 53, 54, 55, 56, 57, 58, 59, 60, 61, 62, 63, 64, 65, 66, 67, 68, 69, 70, 71, 72, 73, 74, 75, 76, 77, 78, 79, 80, 81, 82, 83, 84, 85, 86, 87, 88, 89, 90, 91, 92, 93, 94, 95, 96, 97, 98, 99, 100, 101, 102, 5, 103, 104, 105, 106, 107, 108, 109, 110, 111, 112, 113, 114, 115, 116, 117, 118, 119, 120, 121, 122, 123, 124, 125, 126, 127, 128, 129, 130, 131, 132, 133, 134, 135, 136, 137, 138, 139, 140, 141, 142, 143, 144, 145, 146, 147, 148, 149, 150, 151, 152, 153, 154, 155, 156, 157, 158, 159, 160, 161, 162, 163, 164, 165, 166, 167, 168, 169, 170, 171, 172, 173, 174, 175, 176, 177, 178, 179, 180, 181, 182, 183, 184, 185, 186, 187, 188, 189, 190, 191, 192, 193, 194, 195, 196, 197, 198, 199, 200, 201, 202, 203, 204, 205, 206, 207, 208, 209, 210, 211, 212, 213, 214, 215, 216, 217, 218, 219, 220, 221, 222, 223, 224, 225, 226, 227, 228, 229, 230, 231, 232, 233, 234, 235, 236, 237, 238, 239] rfl (by decide +kernel)) (goodIn_sub (fun _ h => List.mem_cons_of_mem _ (List.mem_append_right _ h)) (by decide +kernel))
set_option maxRecDepth 20000 in
theorem gL_load_X6_load : GoodIn wsL_load (wsV RL 17 RX6 yX6_load wsX6_load) := goodIn_app (goodIn_r _ [2, 3, 4, 5] rfl (by decide +kernel)) ggL_load_X6_load
theorem dL_load_0 : decode cL_load 0 = .ok (.aload_n 1, 1) := by decide +kernel
theorem dL_load_1 : decode cL_load 1 = .ok (.iconst 0, 1) := by decide +kernel
theorem dL_load_2 : decode cL_load 2 = .ok (.aload_n 0, 1) := by decide +kernel
theorem dL_load_3 : decode cL_load 3 = .ok (.invokevirtual 17, 3) := by decide +kernel
theorem dL_load_6 : decode cL_load 6 = .ok (.i2l, 1) := by decide +kernel
theorem dL_load_7 : decode cL_load 7 = .ok (.lastore, 1) := by decide +kernel
theorem dL_load_8 : decode cL_load 8 = .ok (.goto 6, 3) := by decide +kernel
theorem dL_load_11 : decode cL_load 11 = .ok (.astore_n 2, 1) := by decide +kernel
theorem dL_load_12 : decode cL_load 12 = .ok (.iconst 1, 1) := by decide +kernel
theorem dL_load_13 : decode cL_load 13 = .ok (.ireturn, 1) := by decide +kernel
theorem dL_load_14 : decode cL_load 14 = .ok (.iconst 0, 1) := by decide +kernel
theorem dL_load_15 : decode cL_load 15 = .ok (.ireturn, 1) := by decide +kernel
set_option maxRecDepth 20000 in
theorem ggL_about_X6_about : GoodIn wsL_about wsX6_about := goodIn_ca (goodIn_r _ [6, 7, 8, 9, 10, 11, 12, 13, 14, 15, 16, 5, 17, 18, 19, 20, 21, 22, 23, 24, 25, 26, 27, 28, 29, 30, 31, 32, 33, 34, 35, 36, 37, 38, 39, 40, 41, 42, 43, 44, 45, 46, 47, 48, 49, 50, 51] rfl (by decide +kernel)) (goodIn_sub (fun _ h => List.mem_cons_of_mem _ (List.mem_append_right _ h)) (by decide +kernel))
set_option maxRecDepth 20000 in
theorem gL_about_X6_about : GoodIn wsL_about (wsV RL 21 RX6 yX6_about wsX6_about) := goodIn_app (goodIn_r _ [2, 3, 4, 5] rfl (by decide +kernel)) ggL_about_X6_about
theorem dL_about_0 : decode cL_about 0 = .ok (.aload_n 2, 1) := by decide +kernel
theorem dL_about_1 : decode cL_about 1 = .ok (.iconst 0, 1) := by decide +kernel
theorem dL_about_2 : decode cL_about 2 = .ok (.aload_n 0, 1) := by decide +kernel
theorem dL_about_3 : decode cL_about 3 = .ok (.iload_n 1, 1) := by decide +kernel
theorem dL_about_4 : decode cL_about 4 = .ok (.invokevirtual 21, 3) := by decide +kernel
theorem dL_about_7 : decode cL_about 7 = .ok (.i2l, 1) := by decide +kernel
theorem dL_about_8 : decode cL_about 8 = .ok (.lastore, 1) := by decide +kernel
theorem dL_about_9 : decode cL_about 9 = .ok (.goto 6, 3) := by decide +kernel
theorem dL_about_12 : decode cL_about 12 = .ok (.astore_n 3, 1) := by decide +kernel
theorem dL_about_13 : decode cL_about 13 = .ok (.iconst 1, 1) := by decide +kernel
theorem dL_about_14 : decode cL_about 14 = .ok (.ireturn, 1) := by decide +kernel
theorem dL_about_15 : decode cL_about 15 = .ok (.iconst 0, 1) := by decide +kernel
theorem dL_about_16 : decode cL_about 16 = .ok (.ireturn, 1) := by decide +kernel
set_option maxRecDepth 20000 in
theorem ggL_carOf_X6_carOf : GoodIn wsL_carOf wsX6_carOf := goodIn_ca (goodIn_ca (goodIn_r _ [7, 8, 9, 10, 11, 12, 13, 6, 14, 15, 16, 17, 18, 19, 20, 21, 22, 23, 24, 25, 26, 27, 28, 29, 30, 31, 32, 33, 34, 35, 36, 37, 38, 39, 40, 41, 42, 43, 44, 45, 46, 47, 48, 49, 50, 51, 52, 53] rfl (by decide +kernel)) (goodIn_sub (fun _ h => List.mem_cons_of_mem _ (List.mem_append_left _ (List.mem_append_right _ h))) (by decide +kernel))) (goodIn_sub (fun _ h => List.mem_cons_of_mem _ (List.mem_append_right _ h)) (by decide +kernel))
set_option maxRecDepth 20000 in
theorem gL_carOf_X6_carOf : GoodIn wsL_carOf (wsV RL 24 RX6 yX6_carOf wsX6_carOf) := goodIn_app (goodIn_r _ [3, 4, 5, 6] rfl (by decide +kernel)) ggL_carOf_X6_carOf
theorem dL_carOf_0 : decode cL_carOf 0 = .ok (.aload_n 3, 1) := by decide +kernel
theorem dL_carOf_1 : decode cL_carOf 1 = .ok (.iconst 0, 1) := by decide +kernel
theorem dL_carOf_2 : decode cL_carOf 2 = .ok (.aload_n 0, 1) := by decide +kernel
theorem dL_carOf_3 : decode cL_carOf 3 = .ok (.iload_n 1, 1) := by decide +kernel
theorem dL_carOf_4 : decode cL_carOf 4 = .ok (.iload_n 2, 1) := by decide +kernel
theorem dL_carOf_5 : decode cL_carOf 5 = .ok (.invokevirtual 24, 3) := by decide +kernel
theorem dL_carOf_8 : decode cL_carOf 8 = .ok (.i2l, 1) := by decide +kernel
theorem dL_carOf_9 : decode cL_carOf 9 = .ok (.lastore, 1) := by decide +kernel
theorem dL_carOf_10 : decode cL_carOf 10 = .ok (.goto 11, 3) := by decide +kernel
theorem dL_carOf_13 : decode cL_carOf 13 = .ok (.astore 4, 2) := by decide +kernel
theorem dL_carOf_15 : decode cL_carOf 15 = .ok (.iconst 1, 1) := by decide +kernel
theorem dL_carOf_16 : decode cL_carOf 16 = .ok (.ireturn, 1) := by decide +kernel
theorem dL_carOf_17 : decode cL_carOf 17 = .ok (.astore 4, 2) := by decide +kernel
theorem dL_carOf_19 : decode cL_carOf 19 = .ok (.iconst 2, 1) := by decide +kernel
theorem dL_carOf_20 : decode cL_carOf 20 = .ok (.ireturn, 1) := by decide +kernel
theorem dL_carOf_21 : decode cL_carOf 21 = .ok (.iconst 0, 1) := by decide +kernel
theorem dL_carOf_22 : decode cL_carOf 22 = .ok (.ireturn, 1) := by decide +kernel
set_option maxRecDepth 20000 in
theorem ggL_at_X6_at : GoodIn wsL_at wsX6_at := goodIn_ca (goodIn_r _ [6, 7, 8, 9, 5, 10, 11, 12, 13, 14, 15, 16, 17, 18, 19, 20, 21, 22, 23, 24, 25, 26, 27, 28, 29, 30, 31, 32, 33, 34, 35, 36, 37] rfl (by decide +kernel)) (goodIn_sub (fun _ h => List.mem_cons_of_mem _ (List.mem_append_right _ h)) (by decide +kernel))
set_option maxRecDepth 20000 in
theorem gL_at_X6_at : GoodIn wsL_at (wsV RL 30 RX6 yX6_at wsX6_at) := goodIn_app (goodIn_r _ [2, 3, 4, 5] rfl (by decide +kernel)) ggL_at_X6_at
theorem dL_at_0 : decode cL_at 0 = .ok (.aload_n 2, 1) := by decide +kernel
theorem dL_at_1 : decode cL_at 1 = .ok (.iconst 0, 1) := by decide +kernel
theorem dL_at_2 : decode cL_at 2 = .ok (.aload_n 0, 1) := by decide +kernel
theorem dL_at_3 : decode cL_at 3 = .ok (.iload_n 1, 1) := by decide +kernel
theorem dL_at_4 : decode cL_at 4 = .ok (.invokevirtual 30, 3) := by decide +kernel
theorem dL_at_7 : decode cL_at 7 = .ok (.i2l, 1) := by decide +kernel
theorem dL_at_8 : decode cL_at 8 = .ok (.lastore, 1) := by decide +kernel
theorem dL_at_9 : decode cL_at 9 = .ok (.goto 6, 3) := by decide +kernel
theorem dL_at_12 : decode cL_at 12 = .ok (.astore_n 3, 1) := by decide +kernel
theorem dL_at_13 : decode cL_at 13 = .ok (.iconst 1, 1) := by decide +kernel
theorem dL_at_14 : decode cL_at 14 = .ok (.ireturn, 1) := by decide +kernel
theorem dL_at_15 : decode cL_at 15 = .ok (.iconst 0, 1) := by decide +kernel
theorem dL_at_16 : decode cL_at 16 = .ok (.ireturn, 1) := by decide +kernel
set_option maxRecDepth 20000 in
theorem ggL_gap_X6_gap : GoodIn wsL_gap wsX6_gap := goodIn_ca (goodIn_ca (goodIn_r _ [7, 8, 9, 10, 11, 12, 13, 14, 15, 16, 17, 6, 18, 19, 20, 21, 22, 23, 24, 25, 26, 27, 28, 29, 30, 31, 32, 33, 34, 35, 36, 37, 38, 39, 40, 41, 42] rfl (by decide +kernel)) (goodIn_sub (fun _ h => List.mem_cons_of_mem _ (List.mem_append_left _ (List.mem_append_right _ h))) (by decide +kernel))) (goodIn_sub (fun _ h => List.mem_cons_of_mem _ (List.mem_append_right _ h)) (by decide +kernel))
set_option maxRecDepth 20000 in
theorem gL_gap_X6_gap : GoodIn wsL_gap (wsV RL 33 RX6 yX6_gap wsX6_gap) := goodIn_app (goodIn_r _ [3, 4, 5, 6] rfl (by decide +kernel)) ggL_gap_X6_gap
theorem dL_gap_0 : decode cL_gap 0 = .ok (.aload_n 3, 1) := by decide +kernel
theorem dL_gap_1 : decode cL_gap 1 = .ok (.iconst 0, 1) := by decide +kernel
theorem dL_gap_2 : decode cL_gap 2 = .ok (.aload_n 0, 1) := by decide +kernel
theorem dL_gap_3 : decode cL_gap 3 = .ok (.iload_n 1, 1) := by decide +kernel
theorem dL_gap_4 : decode cL_gap 4 = .ok (.iload_n 2, 1) := by decide +kernel
theorem dL_gap_5 : decode cL_gap 5 = .ok (.invokevirtual 33, 3) := by decide +kernel
theorem dL_gap_8 : decode cL_gap 8 = .ok (.i2l, 1) := by decide +kernel
theorem dL_gap_9 : decode cL_gap 9 = .ok (.lastore, 1) := by decide +kernel
theorem dL_gap_10 : decode cL_gap 10 = .ok (.goto 11, 3) := by decide +kernel
theorem dL_gap_13 : decode cL_gap 13 = .ok (.astore 4, 2) := by decide +kernel
theorem dL_gap_15 : decode cL_gap 15 = .ok (.iconst 1, 1) := by decide +kernel
theorem dL_gap_16 : decode cL_gap 16 = .ok (.ireturn, 1) := by decide +kernel
theorem dL_gap_17 : decode cL_gap 17 = .ok (.astore 4, 2) := by decide +kernel
theorem dL_gap_19 : decode cL_gap 19 = .ok (.iconst 2, 1) := by decide +kernel
theorem dL_gap_20 : decode cL_gap 20 = .ok (.ireturn, 1) := by decide +kernel
