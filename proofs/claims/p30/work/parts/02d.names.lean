theorem dX4_shortestGapFor_4 : decode cX4_shortestGapFor 4 = .ok (.istore_n 3, 1) := by decide +kernel
theorem dX4_shortestGapFor_5 : decode cX4_shortestGapFor 5 = .ok (.iconst 0, 1) := by decide +kernel
theorem dX4_shortestGapFor_6 : decode cX4_shortestGapFor 6 = .ok (.istore 4, 2) := by decide +kernel
theorem dX4_shortestGapFor_8 : decode cX4_shortestGapFor 8 = .ok (.iload 4, 2) := by decide +kernel
theorem dX4_shortestGapFor_10 : decode cX4_shortestGapFor 10 = .ok (.aload_n 0, 1) := by decide +kernel
theorem dX4_shortestGapFor_11 : decode cX4_shortestGapFor 11 = .ok (.getfield 15, 3) := by decide +kernel
theorem dX4_shortestGapFor_14 : decode cX4_shortestGapFor 14 = .ok (.arraylength, 1) := by decide +kernel
theorem dX4_shortestGapFor_15 : decode cX4_shortestGapFor 15 = .ok (.if_icmp .ge 47, 3) := by decide +kernel
theorem dX4_shortestGapFor_18 : decode cX4_shortestGapFor 18 = .ok (.aload_n 0, 1) := by decide +kernel
theorem dX4_shortestGapFor_19 : decode cX4_shortestGapFor 19 = .ok (.getfield 15, 3) := by decide +kernel
theorem dX4_shortestGapFor_22 : decode cX4_shortestGapFor 22 = .ok (.iload 4, 2) := by decide +kernel
theorem dX4_shortestGapFor_24 : decode cX4_shortestGapFor 24 = .ok (.iaload, 1) := by decide +kernel
theorem dX4_shortestGapFor_25 : decode cX4_shortestGapFor 25 = .ok (.iload_n 1, 1) := by decide +kernel
theorem dX4_shortestGapFor_26 : decode cX4_shortestGapFor 26 = .ok (.aload_n 0, 1) := by decide +kernel
theorem dX4_shortestGapFor_27 : decode cX4_shortestGapFor 27 = .ok (.getfield 62, 3) := by decide +kernel
theorem dX4_shortestGapFor_30 : decode cX4_shortestGapFor 30 = .ok (.iadd, 1) := by decide +kernel
theorem dX4_shortestGapFor_31 : decode cX4_shortestGapFor 31 = .ok (.if_icmp .lt 25, 3) := by decide +kernel
theorem dX4_shortestGapFor_34 : decode cX4_shortestGapFor 34 = .ok (.aload_n 0, 1) := by decide +kernel
theorem dX4_shortestGapFor_35 : decode cX4_shortestGapFor 35 = .ok (.getfield 15, 3) := by decide +kernel
theorem dX4_shortestGapFor_38 : decode cX4_shortestGapFor 38 = .ok (.iload 4, 2) := by decide +kernel
theorem dX4_shortestGapFor_40 : decode cX4_shortestGapFor 40 = .ok (.iaload, 1) := by decide +kernel
theorem dX4_shortestGapFor_41 : decode cX4_shortestGapFor 41 = .ok (.iload_n 3, 1) := by decide +kernel
theorem dX4_shortestGapFor_42 : decode cX4_shortestGapFor 42 = .ok (.if_icmp .ge 14, 3) := by decide +kernel
theorem dX4_shortestGapFor_45 : decode cX4_shortestGapFor 45 = .ok (.iload 4, 2) := by decide +kernel
theorem dX4_shortestGapFor_47 : decode cX4_shortestGapFor 47 = .ok (.istore_n 2, 1) := by decide +kernel
theorem dX4_shortestGapFor_48 : decode cX4_shortestGapFor 48 = .ok (.aload_n 0, 1) := by decide +kernel
theorem dX4_shortestGapFor_49 : decode cX4_shortestGapFor 49 = .ok (.getfield 15, 3) := by decide +kernel
theorem dX4_shortestGapFor_52 : decode cX4_shortestGapFor 52 = .ok (.iload 4, 2) := by decide +kernel
theorem dX4_shortestGapFor_54 : decode cX4_shortestGapFor 54 = .ok (.iaload, 1) := by decide +kernel
theorem dX4_shortestGapFor_55 : decode cX4_shortestGapFor 55 = .ok (.istore_n 3, 1) := by decide +kernel
theorem dX4_shortestGapFor_56 : decode cX4_shortestGapFor 56 = .ok (.iinc 4 1, 3) := by decide +kernel
theorem dX4_shortestGapFor_59 : decode cX4_shortestGapFor 59 = .ok (.goto (-51), 3) := by decide +kernel
theorem dX4_shortestGapFor_62 : decode cX4_shortestGapFor 62 = .ok (.iload_n 2, 1) := by decide +kernel
theorem dX4_shortestGapFor_63 : decode cX4_shortestGapFor 63 = .ok (.ireturn, 1) := by decide +kernel
theorem dX4_placeByChance_0 : decode cX4_placeByChance 0 = .ok (.iconst 0, 1) := by decide +kernel
theorem dX4_placeByChance_1 : decode cX4_placeByChance 1 = .ok (.istore 4, 2) := by decide +kernel
theorem dX4_placeByChance_3 : decode cX4_placeByChance 3 = .ok (.iconst 0, 1) := by decide +kernel
theorem dX4_placeByChance_4 : decode cX4_placeByChance 4 = .ok (.istore 5, 2) := by decide +kernel
theorem dX4_placeByChance_6 : decode cX4_placeByChance 6 = .ok (.iload 5, 2) := by decide +kernel
theorem dX4_placeByChance_8 : decode cX4_placeByChance 8 = .ok (.aload_n 0, 1) := by decide +kernel
theorem dX4_placeByChance_9 : decode cX4_placeByChance 9 = .ok (.getfield 15, 3) := by decide +kernel
theorem dX4_placeByChance_12 : decode cX4_placeByChance 12 = .ok (.arraylength, 1) := by decide +kernel
theorem dX4_placeByChance_13 : decode cX4_placeByChance 13 = .ok (.if_icmp .ge 41, 3) := by decide +kernel
theorem dX4_placeByChance_16 : decode cX4_placeByChance 16 = .ok (.aload_n 0, 1) := by decide +kernel
theorem dX4_placeByChance_17 : decode cX4_placeByChance 17 = .ok (.getfield 15, 3) := by decide +kernel
theorem dX4_placeByChance_20 : decode cX4_placeByChance 20 = .ok (.iload 5, 2) := by decide +kernel
theorem dX4_placeByChance_22 : decode cX4_placeByChance 22 = .ok (.iaload, 1) := by decide +kernel
theorem dX4_placeByChance_23 : decode cX4_placeByChance 23 = .ok (.iload_n 1, 1) := by decide +kernel
theorem dX4_placeByChance_24 : decode cX4_placeByChance 24 = .ok (.aload_n 0, 1) := by decide +kernel
theorem dX4_placeByChance_25 : decode cX4_placeByChance 25 = .ok (.getfield 62, 3) := by decide +kernel
theorem dX4_placeByChance_28 : decode cX4_placeByChance 28 = .ok (.iadd, 1) := by decide +kernel
theorem dX4_placeByChance_29 : decode cX4_placeByChance 29 = .ok (.if_icmp .lt 19, 3) := by decide +kernel
theorem dX4_placeByChance_32 : decode cX4_placeByChance 32 = .ok (.iload 4, 2) := by decide +kernel
theorem dX4_placeByChance_34 : decode cX4_placeByChance 34 = .ok (.aload_n 0, 1) := by decide +kernel
theorem dX4_placeByChance_35 : decode cX4_placeByChance 35 = .ok (.getfield 15, 3) := by decide +kernel
theorem dX4_placeByChance_38 : decode cX4_placeByChance 38 = .ok (.iload 5, 2) := by decide +kernel
theorem dX4_placeByChance_40 : decode cX4_placeByChance 40 = .ok (.iaload, 1) := by decide +kernel
theorem dX4_placeByChance_41 : decode cX4_placeByChance 41 = .ok (.iload_n 1, 1) := by decide +kernel
theorem dX4_placeByChance_42 : decode cX4_placeByChance 42 = .ok (.isub, 1) := by decide +kernel
theorem dX4_placeByChance_43 : decode cX4_placeByChance 43 = .ok (.iconst 1, 1) := by decide +kernel
theorem dX4_placeByChance_44 : decode cX4_placeByChance 44 = .ok (.iadd, 1) := by decide +kernel
theorem dX4_placeByChance_45 : decode cX4_placeByChance 45 = .ok (.iadd, 1) := by decide +kernel
theorem dX4_placeByChance_46 : decode cX4_placeByChance 46 = .ok (.istore 4, 2) := by decide +kernel
theorem dX4_placeByChance_48 : decode cX4_placeByChance 48 = .ok (.iinc 5 1, 3) := by decide +kernel
theorem dX4_placeByChance_51 : decode cX4_placeByChance 51 = .ok (.goto (-45), 3) := by decide +kernel
theorem dX4_placeByChance_54 : decode cX4_placeByChance 54 = .ok (.iload 4, 2) := by decide +kernel
theorem dX4_placeByChance_56 : decode cX4_placeByChance 56 = .ok (.ifCond .gt 5, 3) := by decide +kernel
theorem dX4_placeByChance_59 : decode cX4_placeByChance 59 = .ok (.iconst (-1), 1) := by decide +kernel
theorem dX4_placeByChance_60 : decode cX4_placeByChance 60 = .ok (.ireturn, 1) := by decide +kernel
theorem dX4_placeByChance_61 : decode cX4_placeByChance 61 = .ok (.lload_n 2, 1) := by decide +kernel
theorem dX4_placeByChance_62 : decode cX4_placeByChance 62 = .ok (.bipush 33, 2) := by decide +kernel
theorem dX4_placeByChance_64 : decode cX4_placeByChance 64 = .ok (.lushr, 1) := by decide +kernel
theorem dX4_placeByChance_65 : decode cX4_placeByChance 65 = .ok (.l2i, 1) := by decide +kernel
theorem dX4_placeByChance_66 : decode cX4_placeByChance 66 = .ok (.iload 4, 2) := by decide +kernel
theorem dX4_placeByChance_68 : decode cX4_placeByChance 68 = .ok (.irem, 1) := by decide +kernel
theorem dX4_placeByChance_69 : decode cX4_placeByChance 69 = .ok (.istore 5, 2) := by decide +kernel
theorem dX4_placeByChance_71 : decode cX4_placeByChance 71 = .ok (.iconst 0, 1) := by decide +kernel
theorem dX4_placeByChance_72 : decode cX4_placeByChance 72 = .ok (.istore 6, 2) := by decide +kernel
theorem dX4_placeByChance_74 : decode cX4_placeByChance 74 = .ok (.iload 6, 2) := by decide +kernel
theorem dX4_placeByChance_76 : decode cX4_placeByChance 76 = .ok (.aload_n 0, 1) := by decide +kernel
theorem dX4_placeByChance_77 : decode cX4_placeByChance 77 = .ok (.getfield 15, 3) := by decide +kernel
theorem dX4_placeByChance_80 : decode cX4_placeByChance 80 = .ok (.arraylength, 1) := by decide +kernel
theorem dX4_placeByChance_81 : decode cX4_placeByChance 81 = .ok (.if_icmp .ge 62, 3) := by decide +kernel
theorem dX4_placeByChance_84 : decode cX4_placeByChance 84 = .ok (.aload_n 0, 1) := by decide +kernel
theorem dX4_placeByChance_85 : decode cX4_placeByChance 85 = .ok (.getfield 15, 3) := by decide +kernel
theorem dX4_placeByChance_88 : decode cX4_placeByChance 88 = .ok (.iload 6, 2) := by decide +kernel
theorem dX4_placeByChance_90 : decode cX4_placeByChance 90 = .ok (.iaload, 1) := by decide +kernel
theorem dX4_placeByChance_91 : decode cX4_placeByChance 91 = .ok (.iload_n 1, 1) := by decide +kernel
theorem dX4_placeByChance_92 : decode cX4_placeByChance 92 = .ok (.aload_n 0, 1) := by decide +kernel
theorem dX4_placeByChance_93 : decode cX4_placeByChance 93 = .ok (.getfield 62, 3) := by decide +kernel
theorem dX4_placeByChance_96 : decode cX4_placeByChance 96 = .ok (.iadd, 1) := by decide +kernel
theorem dX4_placeByChance_97 : decode cX4_placeByChance 97 = .ok (.if_icmp .lt 17, 3) := by decide +kernel
theorem dX4_placeByChance_100 : decode cX4_placeByChance 100 = .ok (.aload_n 0, 1) := by decide +kernel
theorem dX4_placeByChance_101 : decode cX4_placeByChance 101 = .ok (.getfield 15, 3) := by decide +kernel
theorem dX4_placeByChance_104 : decode cX4_placeByChance 104 = .ok (.iload 6, 2) := by decide +kernel
theorem dX4_placeByChance_106 : decode cX4_placeByChance 106 = .ok (.iaload, 1) := by decide +kernel
theorem dX4_placeByChance_107 : decode cX4_placeByChance 107 = .ok (.iload_n 1, 1) := by decide +kernel
theorem dX4_placeByChance_108 : decode cX4_placeByChance 108 = .ok (.isub, 1) := by decide +kernel
theorem dX4_placeByChance_109 : decode cX4_placeByChance 109 = .ok (.iconst 1, 1) := by decide +kernel
theorem dX4_placeByChance_110 : decode cX4_placeByChance 110 = .ok (.iadd, 1) := by decide +kernel
theorem dX4_placeByChance_111 : decode cX4_placeByChance 111 = .ok (.goto 4, 3) := by decide +kernel
theorem dX4_placeByChance_114 : decode cX4_placeByChance 114 = .ok (.iconst 0, 1) := by decide +kernel
theorem dX4_placeByChance_115 : decode cX4_placeByChance 115 = .ok (.istore 7, 2) := by decide +kernel
theorem dX4_placeByChance_117 : decode cX4_placeByChance 117 = .ok (.iload 5, 2) := by decide +kernel
theorem dX4_placeByChance_119 : decode cX4_placeByChance 119 = .ok (.iload 7, 2) := by decide +kernel
theorem dX4_placeByChance_121 : decode cX4_placeByChance 121 = .ok (.if_icmp .ge 9, 3) := by decide +kernel
theorem dX4_placeByChance_124 : decode cX4_placeByChance 124 = .ok (.iload 6, 2) := by decide +kernel
theorem dX4_placeByChance_126 : decode cX4_placeByChance 126 = .ok (.iload 5, 2) := by decide +kernel
theorem dX4_placeByChance_128 : decode cX4_placeByChance 128 = .ok (.iadd, 1) := by decide +kernel
theorem dX4_placeByChance_129 : decode cX4_placeByChance 129 = .ok (.ireturn, 1) := by decide +kernel
theorem dX4_placeByChance_130 : decode cX4_placeByChance 130 = .ok (.iload 5, 2) := by decide +kernel
theorem dX4_placeByChance_132 : decode cX4_placeByChance 132 = .ok (.iload 7, 2) := by decide +kernel
theorem dX4_placeByChance_134 : decode cX4_placeByChance 134 = .ok (.isub, 1) := by decide +kernel
theorem dX4_placeByChance_135 : decode cX4_placeByChance 135 = .ok (.istore 5, 2) := by decide +kernel
theorem dX4_placeByChance_137 : decode cX4_placeByChance 137 = .ok (.iinc 6 1, 3) := by decide +kernel
theorem dX4_placeByChance_140 : decode cX4_placeByChance 140 = .ok (.goto (-66), 3) := by decide +kernel
theorem dX4_placeByChance_143 : decode cX4_placeByChance 143 = .ok (.iconst (-1), 1) := by decide +kernel
theorem dX4_placeByChance_144 : decode cX4_placeByChance 144 = .ok (.ireturn, 1) := by decide +kernel
set_option maxRecDepth 20000 in
theorem ggX4_useChance_X6_nextChance : GoodIn wsX4_useChance wsX6_nextChance := goodIn_r _ [5, 6, 7] rfl (by decide +kernel)
set_option maxRecDepth 20000 in
theorem gX4_useChance_X6_nextChance_n96 : GoodIn wsX4_useChance (wsX6_nextChance) := ggX4_useChance_X6_nextChance
theorem dX4_useChance_0 : decode cX4_useChance 0 = .ok (.aload_n 0, 1) := by decide +kernel
theorem dX4_useChance_1 : decode cX4_useChance 1 = .ok (.getfield 59, 3) := by decide +kernel
theorem dX4_useChance_4 : decode cX4_useChance 4 = .ok (.iconst 2, 1) := by decide +kernel
theorem dX4_useChance_5 : decode cX4_useChance 5 = .ok (.if_icmp .ne 14, 3) := by decide +kernel
theorem dX4_useChance_8 : decode cX4_useChance 8 = .ok (.aload_n 0, 1) := by decide +kernel
theorem dX4_useChance_9 : decode cX4_useChance 9 = .ok (.aload_n 0, 1) := by decide +kernel
theorem dX4_useChance_10 : decode cX4_useChance 10 = .ok (.getfield 55, 3) := by decide +kernel
theorem dX4_useChance_13 : decode cX4_useChance 13 = .ok (.invokestatic 96, 3) := by decide +kernel
theorem dX4_useChance_16 : decode cX4_useChance 16 = .ok (.putfield 55, 3) := by decide +kernel
theorem dX4_useChance_19 : decode cX4_useChance 19 = .ok (.return_, 1) := by decide +kernel
theorem dX4_isCar_0 : decode cX4_isCar 0 = .ok (.iload_n 1, 1) := by decide +kernel
theorem dX4_isCar_1 : decode cX4_isCar 1 = .ok (.ifCond .lt 15, 3) := by decide +kernel
theorem dX4_isCar_4 : decode cX4_isCar 4 = .ok (.iload_n 1, 1) := by decide +kernel
theorem dX4_isCar_5 : decode cX4_isCar 5 = .ok (.aload_n 0, 1) := by decide +kernel
theorem dX4_isCar_6 : decode cX4_isCar 6 = .ok (.getfield 48, 3) := by decide +kernel
theorem dX4_isCar_9 : decode cX4_isCar 9 = .ok (.if_icmp .ge 7, 3) := by decide +kernel
theorem dX4_isCar_12 : decode cX4_isCar 12 = .ok (.iconst 1, 1) := by decide +kernel
theorem dX4_isCar_13 : decode cX4_isCar 13 = .ok (.goto 4, 3) := by decide +kernel
theorem dX4_isCar_16 : decode cX4_isCar 16 = .ok (.iconst 0, 1) := by decide +kernel
theorem dX4_isCar_17 : decode cX4_isCar 17 = .ok (.ireturn, 1) := by decide +kernel
set_option maxRecDepth 20000 in
theorem ggX4_isParked_X4_isCar : GoodIn wsX4_isParked wsX4_isCar := goodIn_r _ [6, 7, 11, 12, 13, 14, 15, 16, 17, 18, 19, 20, 21, 22, 23, 24] rfl (by decide +kernel)
set_option maxRecDepth 20000 in
theorem gX4_isParked_X4_isCar : GoodIn wsX4_isParked (wsV RX4 110 RX4 yX4_isCar wsX4_isCar) := goodIn_app (goodIn_r _ [2, 3, 4, 5] rfl (by decide +kernel)) ggX4_isParked_X4_isCar
set_option maxRecDepth 20000 in
theorem ggX4_isParked_X6_get : GoodIn wsX4_isParked wsX6_get := goodIn_r _ [10] rfl (by decide +kernel)
set_option maxRecDepth 20000 in
theorem gX4_isParked_X6_get_n84 : GoodIn wsX4_isParked (wsX6_get) := ggX4_isParked_X6_get
theorem dX4_isParked_0 : decode cX4_isParked 0 = .ok (.aload_n 0, 1) := by decide +kernel
theorem dX4_isParked_1 : decode cX4_isParked 1 = .ok (.iload_n 1, 1) := by decide +kernel
theorem dX4_isParked_2 : decode cX4_isParked 2 = .ok (.invokevirtual 110, 3) := by decide +kernel
theorem dX4_isParked_5 : decode cX4_isParked 5 = .ok (.ifCond .eq 18, 3) := by decide +kernel
theorem dX4_isParked_8 : decode cX4_isParked 8 = .ok (.aload_n 0, 1) := by decide +kernel
theorem dX4_isParked_9 : decode cX4_isParked 9 = .ok (.getfield 24, 3) := by decide +kernel
theorem dX4_isParked_12 : decode cX4_isParked 12 = .ok (.iload_n 1, 1) := by decide +kernel
theorem dX4_isParked_13 : decode cX4_isParked 13 = .ok (.invokestatic 84, 3) := by decide +kernel
theorem dX4_isParked_16 : decode cX4_isParked 16 = .ok (.ifCond .ne 7, 3) := by decide +kernel
theorem dX4_isParked_19 : decode cX4_isParked 19 = .ok (.iconst 1, 1) := by decide +kernel
theorem dX4_isParked_20 : decode cX4_isParked 20 = .ok (.goto 4, 3) := by decide +kernel
theorem dX4_isParked_23 : decode cX4_isParked 23 = .ok (.iconst 0, 1) := by decide +kernel
theorem dX4_isParked_24 : decode cX4_isParked 24 = .ok (.ireturn, 1) := by decide +kernel
theorem dX4_allCame_0 : decode cX4_allCame 0 = .ok (.aload_n 0, 1) := by decide +kernel
theorem dX4_allCame_1 : decode cX4_allCame 1 = .ok (.getfield 48, 3) := by decide +kernel
theorem dX4_allCame_4 : decode cX4_allCame 4 = .ok (.bipush 40, 2) := by decide +kernel
theorem dX4_allCame_6 : decode cX4_allCame 6 = .ok (.if_icmp .lt 7, 3) := by decide +kernel
theorem dX4_allCame_9 : decode cX4_allCame 9 = .ok (.iconst 1, 1) := by decide +kernel
theorem dX4_allCame_10 : decode cX4_allCame 10 = .ok (.goto 4, 3) := by decide +kernel
theorem dX4_allCame_13 : decode cX4_allCame 13 = .ok (.iconst 0, 1) := by decide +kernel
theorem dX4_allCame_14 : decode cX4_allCame 14 = .ok (.ireturn, 1) := by decide +kernel
set_option maxRecDepth 20000 in
theorem ggX4_carsInState_X6_get : GoodIn wsX4_carsInState wsX6_get := goodIn_r _ [5] rfl (by decide +kernel)
set_option maxRecDepth 20000 in
theorem gX4_carsInState_X6_get_n84 : GoodIn wsX4_carsInState (wsX6_get) := ggX4_carsInState_X6_get
theorem dX4_carsInState_0 : decode cX4_carsInState 0 = .ok (.iconst 0, 1) := by decide +kernel
theorem dX4_carsInState_1 : decode cX4_carsInState 1 = .ok (.istore_n 2, 1) := by decide +kernel
theorem dX4_carsInState_2 : decode cX4_carsInState 2 = .ok (.iconst 0, 1) := by decide +kernel
theorem dX4_carsInState_3 : decode cX4_carsInState 3 = .ok (.istore_n 3, 1) := by decide +kernel
theorem dX4_carsInState_4 : decode cX4_carsInState 4 = .ok (.iload_n 3, 1) := by decide +kernel
theorem dX4_carsInState_5 : decode cX4_carsInState 5 = .ok (.aload_n 0, 1) := by decide +kernel
theorem dX4_carsInState_6 : decode cX4_carsInState 6 = .ok (.getfield 48, 3) := by decide +kernel
theorem dX4_carsInState_9 : decode cX4_carsInState 9 = .ok (.if_icmp .ge 24, 3) := by decide +kernel
theorem dX4_carsInState_12 : decode cX4_carsInState 12 = .ok (.aload_n 0, 1) := by decide +kernel
theorem dX4_carsInState_13 : decode cX4_carsInState 13 = .ok (.getfield 24, 3) := by decide +kernel
theorem dX4_carsInState_16 : decode cX4_carsInState 16 = .ok (.iload_n 3, 1) := by decide +kernel
theorem dX4_carsInState_17 : decode cX4_carsInState 17 = .ok (.invokestatic 84, 3) := by decide +kernel
theorem dX4_carsInState_20 : decode cX4_carsInState 20 = .ok (.iload_n 1, 1) := by decide +kernel
theorem dX4_carsInState_21 : decode cX4_carsInState 21 = .ok (.if_icmp .ne 6, 3) := by decide +kernel
theorem dX4_carsInState_24 : decode cX4_carsInState 24 = .ok (.iinc 2 1, 3) := by decide +kernel
theorem dX4_carsInState_27 : decode cX4_carsInState 27 = .ok (.iinc 3 1, 3) := by decide +kernel
theorem dX4_carsInState_30 : decode cX4_carsInState 30 = .ok (.goto (-26), 3) := by decide +kernel
theorem dX4_carsInState_33 : decode cX4_carsInState 33 = .ok (.iload_n 2, 1) := by decide +kernel
theorem dX4_carsInState_34 : decode cX4_carsInState 34 = .ok (.ireturn, 1) := by decide +kernel
set_option maxRecDepth 20000 in
theorem ggX4_allParkedMinutes_X6_get : GoodIn wsX4_allParkedMinutes wsX6_get := goodIn_r _ [5] rfl (by decide +kernel)
set_option maxRecDepth 20000 in
theorem gX4_allParkedMinutes_X6_get_n84 : GoodIn wsX4_allParkedMinutes (wsX6_get) := ggX4_allParkedMinutes_X6_get
theorem dX4_allParkedMinutes_0 : decode cX4_allParkedMinutes 0 = .ok (.iconst 0, 1) := by decide +kernel
theorem dX4_allParkedMinutes_1 : decode cX4_allParkedMinutes 1 = .ok (.istore_n 1, 1) := by decide +kernel
theorem dX4_allParkedMinutes_2 : decode cX4_allParkedMinutes 2 = .ok (.iconst 0, 1) := by decide +kernel
theorem dX4_allParkedMinutes_3 : decode cX4_allParkedMinutes 3 = .ok (.istore_n 2, 1) := by decide +kernel
theorem dX4_allParkedMinutes_4 : decode cX4_allParkedMinutes 4 = .ok (.iload_n 2, 1) := by decide +kernel
theorem dX4_allParkedMinutes_5 : decode cX4_allParkedMinutes 5 = .ok (.aload_n 0, 1) := by decide +kernel
theorem dX4_allParkedMinutes_6 : decode cX4_allParkedMinutes 6 = .ok (.getfield 48, 3) := by decide +kernel
theorem dX4_allParkedMinutes_9 : decode cX4_allParkedMinutes 9 = .ok (.if_icmp .ge 20, 3) := by decide +kernel
theorem dX4_allParkedMinutes_12 : decode cX4_allParkedMinutes 12 = .ok (.iload_n 1, 1) := by decide +kernel
theorem dX4_allParkedMinutes_13 : decode cX4_allParkedMinutes 13 = .ok (.aload_n 0, 1) := by decide +kernel
theorem dX4_allParkedMinutes_14 : decode cX4_allParkedMinutes 14 = .ok (.getfield 30, 3) := by decide +kernel
theorem dX4_allParkedMinutes_17 : decode cX4_allParkedMinutes 17 = .ok (.iload_n 2, 1) := by decide +kernel
theorem dX4_allParkedMinutes_18 : decode cX4_allParkedMinutes 18 = .ok (.invokestatic 84, 3) := by decide +kernel
theorem dX4_allParkedMinutes_21 : decode cX4_allParkedMinutes 21 = .ok (.iadd, 1) := by decide +kernel
theorem dX4_allParkedMinutes_22 : decode cX4_allParkedMinutes 22 = .ok (.istore_n 1, 1) := by decide +kernel
theorem dX4_allParkedMinutes_23 : decode cX4_allParkedMinutes 23 = .ok (.iinc 2 1, 3) := by decide +kernel
theorem dX4_allParkedMinutes_26 : decode cX4_allParkedMinutes 26 = .ok (.goto (-22), 3) := by decide +kernel
theorem dX4_allParkedMinutes_29 : decode cX4_allParkedMinutes 29 = .ok (.iload_n 1, 1) := by decide +kernel
theorem dX4_allParkedMinutes_30 : decode cX4_allParkedMinutes 30 = .ok (.ireturn, 1) := by decide +kernel
set_option maxRecDepth 20000 in
theorem ggX4_minutesLeft_X6_get : GoodIn wsX4_minutesLeft wsX6_get := goodIn_r _ [5] rfl (by decide +kernel)
set_option maxRecDepth 20000 in
theorem gX4_minutesLeft_X6_get_n84 : GoodIn wsX4_minutesLeft (wsX6_get) := ggX4_minutesLeft_X6_get
theorem dX4_minutesLeft_0 : decode cX4_minutesLeft 0 = .ok (.aload_n 0, 1) := by decide +kernel
theorem dX4_minutesLeft_1 : decode cX4_minutesLeft 1 = .ok (.getfield 21, 3) := by decide +kernel
theorem dX4_minutesLeft_4 : decode cX4_minutesLeft 4 = .ok (.iload_n 1, 1) := by decide +kernel
theorem dX4_minutesLeft_5 : decode cX4_minutesLeft 5 = .ok (.invokestatic 84, 3) := by decide +kernel
theorem dX4_minutesLeft_8 : decode cX4_minutesLeft 8 = .ok (.aload_n 0, 1) := by decide +kernel
theorem dX4_minutesLeft_9 : decode cX4_minutesLeft 9 = .ok (.getfield 30, 3) := by decide +kernel
theorem dX4_minutesLeft_12 : decode cX4_minutesLeft 12 = .ok (.iload_n 1, 1) := by decide +kernel
theorem dX4_minutesLeft_13 : decode cX4_minutesLeft 13 = .ok (.invokestatic 84, 3) := by decide +kernel
theorem dX4_minutesLeft_16 : decode cX4_minutesLeft 16 = .ok (.isub, 1) := by decide +kernel
theorem dX4_minutesLeft_17 : decode cX4_minutesLeft 17 = .ok (.ireturn, 1) := by decide +kernel
set_option maxRecDepth 20000 in
theorem ggX4_arrive_X6_isLength : GoodIn wsX4_arrive wsX6_isLength := goodIn_r _ [10] rfl (by decide +kernel)
set_option maxRecDepth 20000 in
theorem gX4_arrive_X6_isLength_n113 : GoodIn wsX4_arrive (wsX6_isLength) := ggX4_arrive_X6_isLength
set_option maxRecDepth 20000 in
theorem ggX4_arrive_X6_isStay : GoodIn wsX4_arrive wsX6_isStay := goodIn_r _ [12] rfl (by decide +kernel)
set_option maxRecDepth 20000 in
theorem gX4_arrive_X6_isStay_n116 : GoodIn wsX4_arrive (wsX6_isStay) := ggX4_arrive_X6_isStay
set_option maxRecDepth 20000 in
theorem ggX4_arrive_X4_allCame : GoodIn wsX4_arrive wsX4_allCame := goodIn_r _ [17, 1, 63, 64, 65, 66, 67, 68, 69, 70, 71, 72, 73, 74, 75, 76] rfl (by decide +kernel)
set_option maxRecDepth 20000 in
theorem gX4_arrive_X4_allCame : GoodIn wsX4_arrive (wsV RX4 119 RX4 yX4_allCame wsX4_allCame) := goodIn_app (goodIn_r _ [13, 14, 15, 16] rfl (by decide +kernel)) ggX4_arrive_X4_allCame
set_option maxRecDepth 20000 in
theorem ggX4_arrive_X6_put : GoodIn wsX4_arrive wsX6_put := goodIn_r _ [19] rfl (by decide +kernel)
set_option maxRecDepth 20000 in
theorem gX4_arrive_X6_put_n88 : GoodIn wsX4_arrive (wsX6_put) := ggX4_arrive_X6_put
set_option maxRecDepth 20000 in
theorem ggX4_arrive_X4_tryToPark : GoodIn wsX4_arrive wsX4_tryToPark := goodIn_r _ [23, 2, 5, 4, 24, 9, 25, 26, 27, 28, 16, 29, 30, 31, 32, 33, 34, 35, 36, 37, 38, 39, 40, 41, 42, 43, 44, 45, 46, 47, 48, 49, 50, 51, 52, 53, 54, 55, 56, 57, 58, 18, 19, 59, 60, 61, 62, 63, 64, 65, 66, 67, 68, 69, 70, 71, 72, 73, 74, 75, 76] rfl (by decide +kernel)
set_option maxRecDepth 20000 in
theorem gX4_arrive_X4_tryToPark : GoodIn wsX4_arrive (wsV RX4 123 RX4 yX4_tryToPark wsX4_tryToPark) := goodIn_app (goodIn_r _ [20, 21, 22, 16] rfl (by decide +kernel)) ggX4_arrive_X4_tryToPark
theorem dX4_arrive_0 : decode cX4_arrive 0 = .ok (.iload_n 1, 1) := by decide +kernel
theorem dX4_arrive_1 : decode cX4_arrive 1 = .ok (.invokestatic 113, 3) := by decide +kernel
theorem dX4_arrive_4 : decode cX4_arrive 4 = .ok (.ifCond .eq 17, 3) := by decide +kernel
theorem dX4_arrive_7 : decode cX4_arrive 7 = .ok (.iload_n 2, 1) := by decide +kernel
theorem dX4_arrive_8 : decode cX4_arrive 8 = .ok (.invokestatic 116, 3) := by decide +kernel
theorem dX4_arrive_11 : decode cX4_arrive 11 = .ok (.ifCond .eq 10, 3) := by decide +kernel
theorem dX4_arrive_14 : decode cX4_arrive 14 = .ok (.aload_n 0, 1) := by decide +kernel
theorem dX4_arrive_15 : decode cX4_arrive 15 = .ok (.invokevirtual 119, 3) := by decide +kernel
theorem dX4_arrive_18 : decode cX4_arrive 18 = .ok (.ifCond .eq 5, 3) := by decide +kernel
theorem dX4_arrive_21 : decode cX4_arrive 21 = .ok (.iconst (-1), 1) := by decide +kernel
theorem dX4_arrive_22 : decode cX4_arrive 22 = .ok (.ireturn, 1) := by decide +kernel
theorem dX4_arrive_23 : decode cX4_arrive 23 = .ok (.aload_n 0, 1) := by decide +kernel
theorem dX4_arrive_24 : decode cX4_arrive 24 = .ok (.getfield 48, 3) := by decide +kernel
theorem dX4_arrive_27 : decode cX4_arrive 27 = .ok (.istore_n 3, 1) := by decide +kernel
theorem dX4_arrive_28 : decode cX4_arrive 28 = .ok (.aload_n 0, 1) := by decide +kernel
theorem dX4_arrive_29 : decode cX4_arrive 29 = .ok (.dup, 1) := by decide +kernel
theorem dX4_arrive_30 : decode cX4_arrive 30 = .ok (.getfield 48, 3) := by decide +kernel
theorem dX4_arrive_33 : decode cX4_arrive 33 = .ok (.iconst 1, 1) := by decide +kernel
theorem dX4_arrive_34 : decode cX4_arrive 34 = .ok (.iadd, 1) := by decide +kernel
theorem dX4_arrive_35 : decode cX4_arrive 35 = .ok (.putfield 48, 3) := by decide +kernel
theorem dX4_arrive_38 : decode cX4_arrive 38 = .ok (.aload_n 0, 1) := by decide +kernel
theorem dX4_arrive_39 : decode cX4_arrive 39 = .ok (.getfield 18, 3) := by decide +kernel
theorem dX4_arrive_42 : decode cX4_arrive 42 = .ok (.iload_n 3, 1) := by decide +kernel
theorem dX4_arrive_43 : decode cX4_arrive 43 = .ok (.iload_n 1, 1) := by decide +kernel
theorem dX4_arrive_44 : decode cX4_arrive 44 = .ok (.invokestatic 88, 3) := by decide +kernel
theorem dX4_arrive_47 : decode cX4_arrive 47 = .ok (.aload_n 0, 1) := by decide +kernel
theorem dX4_arrive_48 : decode cX4_arrive 48 = .ok (.getfield 21, 3) := by decide +kernel
theorem dX4_arrive_51 : decode cX4_arrive 51 = .ok (.iload_n 3, 1) := by decide +kernel
theorem dX4_arrive_52 : decode cX4_arrive 52 = .ok (.iload_n 2, 1) := by decide +kernel
theorem dX4_arrive_53 : decode cX4_arrive 53 = .ok (.invokestatic 88, 3) := by decide +kernel
theorem dX4_arrive_56 : decode cX4_arrive 56 = .ok (.aload_n 0, 1) := by decide +kernel
theorem dX4_arrive_57 : decode cX4_arrive 57 = .ok (.getfield 24, 3) := by decide +kernel
theorem dX4_arrive_60 : decode cX4_arrive 60 = .ok (.iload_n 3, 1) := by decide +kernel
theorem dX4_arrive_61 : decode cX4_arrive 61 = .ok (.iconst 1, 1) := by decide +kernel
theorem dX4_arrive_62 : decode cX4_arrive 62 = .ok (.invokestatic 88, 3) := by decide +kernel
theorem dX4_arrive_65 : decode cX4_arrive 65 = .ok (.aload_n 0, 1) := by decide +kernel
theorem dX4_arrive_66 : decode cX4_arrive 66 = .ok (.getfield 27, 3) := by decide +kernel
theorem dX4_arrive_69 : decode cX4_arrive 69 = .ok (.iload_n 3, 1) := by decide +kernel
theorem dX4_arrive_70 : decode cX4_arrive 70 = .ok (.iconst (-1), 1) := by decide +kernel
theorem dX4_arrive_71 : decode cX4_arrive 71 = .ok (.invokestatic 88, 3) := by decide +kernel
theorem dX4_arrive_74 : decode cX4_arrive 74 = .ok (.aload_n 0, 1) := by decide +kernel
theorem dX4_arrive_75 : decode cX4_arrive 75 = .ok (.getfield 30, 3) := by decide +kernel
theorem dX4_arrive_78 : decode cX4_arrive 78 = .ok (.iload_n 3, 1) := by decide +kernel
theorem dX4_arrive_79 : decode cX4_arrive 79 = .ok (.iconst 0, 1) := by decide +kernel
theorem dX4_arrive_80 : decode cX4_arrive 80 = .ok (.invokestatic 88, 3) := by decide +kernel
theorem dX4_arrive_83 : decode cX4_arrive 83 = .ok (.aload_n 0, 1) := by decide +kernel
theorem dX4_arrive_84 : decode cX4_arrive 84 = .ok (.getfield 33, 3) := by decide +kernel
theorem dX4_arrive_87 : decode cX4_arrive 87 = .ok (.iload_n 3, 1) := by decide +kernel
theorem dX4_arrive_88 : decode cX4_arrive 88 = .ok (.iconst 0, 1) := by decide +kernel
theorem dX4_arrive_89 : decode cX4_arrive 89 = .ok (.invokestatic 88, 3) := by decide +kernel
theorem dX4_arrive_92 : decode cX4_arrive 92 = .ok (.aload_n 0, 1) := by decide +kernel
theorem dX4_arrive_93 : decode cX4_arrive 93 = .ok (.iload_n 3, 1) := by decide +kernel
theorem dX4_arrive_94 : decode cX4_arrive 94 = .ok (.invokevirtual 123, 3) := by decide +kernel
theorem dX4_arrive_97 : decode cX4_arrive 97 = .ok (.pop, 1) := by decide +kernel
theorem dX4_arrive_98 : decode cX4_arrive 98 = .ok (.iload_n 3, 1) := by decide +kernel
theorem dX4_arrive_99 : decode cX4_arrive 99 = .ok (.ireturn, 1) := by decide +kernel
set_option maxRecDepth 20000 in
theorem ggX4_tryToPark_X6_get : GoodIn wsX4_tryToPark wsX6_get := goodIn_r _ [6] rfl (by decide +kernel)
set_option maxRecDepth 20000 in
theorem gX4_tryToPark_X6_get_n84 : GoodIn wsX4_tryToPark (wsX6_get) := ggX4_tryToPark_X6_get
set_option maxRecDepth 20000 in
theorem ggX4_tryToPark_X4_chosenPlace : GoodIn wsX4_tryToPark wsX4_chosenPlace := goodIn_r _ [11, 12, 13, 14, 5, 15, 16, 17, 18, 19, 20, 10, 21, 22, 23, 24, 25, 26, 27, 28, 29, 30, 31, 47, 48, 49, 50, 51, 52, 53, 54, 55, 56, 57, 58, 59, 60] rfl (by decide +kernel)
set_option maxRecDepth 20000 in
theorem gX4_tryToPark_X4_chosenPlace : GoodIn wsX4_tryToPark (wsV RX4 126 RX4 yX4_chosenPlace wsX4_chosenPlace) := goodIn_app (goodIn_r _ [7, 8, 9, 10] rfl (by decide +kernel)) ggX4_tryToPark_X4_chosenPlace
set_option maxRecDepth 20000 in
theorem ggX4_tryToPark_X4_useChance : GoodIn wsX4_tryToPark wsX4_useChance := goodIn_r _ [35, 12, 13, 14, 5, 15, 16, 17, 47, 48, 49, 50, 51, 52, 53, 54, 55, 56, 57, 58, 59, 60] rfl (by decide +kernel)
set_option maxRecDepth 20000 in
theorem gX4_tryToPark_X4_useChance : GoodIn wsX4_tryToPark (wsV RX4 129 RX4 yX4_useChance wsX4_useChance) := goodIn_app (goodIn_r _ [32, 33, 34, 10] rfl (by decide +kernel)) ggX4_tryToPark_X4_useChance
set_option maxRecDepth 20000 in
theorem ggX4_tryToPark_X4_occupy : GoodIn wsX4_tryToPark wsX4_occupy := goodIn_r _ [39, 40, 41, 5, 42, 43, 44, 45, 10, 46, 22, 47, 48, 49, 50, 51, 52, 53, 54, 55, 56, 57, 58, 59, 60] rfl (by decide +kernel)
set_option maxRecDepth 20000 in
theorem gX4_tryToPark_X4_occupy : GoodIn wsX4_tryToPark (wsV RX4 132 RX4 yX4_occupy wsX4_occupy) := goodIn_app (goodIn_r _ [36, 37, 38, 10] rfl (by decide +kernel)) ggX4_tryToPark_X4_occupy
set_option maxRecDepth 20000 in
theorem ggX4_tryToPark_X6_put : GoodIn wsX4_tryToPark wsX6_put := goodIn_r _ [42] rfl (by decide +kernel)
set_option maxRecDepth 20000 in
theorem gX4_tryToPark_X6_put_n88 : GoodIn wsX4_tryToPark (wsX6_put) := ggX4_tryToPark_X6_put
theorem dX4_tryToPark_0 : decode cX4_tryToPark 0 = .ok (.aload_n 0, 1) := by decide +kernel
theorem dX4_tryToPark_1 : decode cX4_tryToPark 1 = .ok (.getfield 18, 3) := by decide +kernel
theorem dX4_tryToPark_4 : decode cX4_tryToPark 4 = .ok (.iload_n 1, 1) := by decide +kernel
theorem dX4_tryToPark_5 : decode cX4_tryToPark 5 = .ok (.invokestatic 84, 3) := by decide +kernel
theorem dX4_tryToPark_8 : decode cX4_tryToPark 8 = .ok (.istore_n 2, 1) := by decide +kernel
theorem dX4_tryToPark_9 : decode cX4_tryToPark 9 = .ok (.aload_n 0, 1) := by decide +kernel
theorem dX4_tryToPark_10 : decode cX4_tryToPark 10 = .ok (.iload_n 2, 1) := by decide +kernel
theorem dX4_tryToPark_11 : decode cX4_tryToPark 11 = .ok (.invokevirtual 126, 3) := by decide +kernel
theorem dX4_tryToPark_14 : decode cX4_tryToPark 14 = .ok (.istore_n 3, 1) := by decide +kernel
theorem dX4_tryToPark_15 : decode cX4_tryToPark 15 = .ok (.iload_n 3, 1) := by decide +kernel
theorem dX4_tryToPark_16 : decode cX4_tryToPark 16 = .ok (.iconst (-1), 1) := by decide +kernel
theorem dX4_tryToPark_17 : decode cX4_tryToPark 17 = .ok (.if_icmp .ne 5, 3) := by decide +kernel
theorem dX4_tryToPark_20 : decode cX4_tryToPark 20 = .ok (.iconst 0, 1) := by decide +kernel
theorem dX4_tryToPark_21 : decode cX4_tryToPark 21 = .ok (.ireturn, 1) := by decide +kernel
theorem dX4_tryToPark_22 : decode cX4_tryToPark 22 = .ok (.aload_n 0, 1) := by decide +kernel
theorem dX4_tryToPark_23 : decode cX4_tryToPark 23 = .ok (.invokevirtual 129, 3) := by decide +kernel
theorem dX4_tryToPark_26 : decode cX4_tryToPark 26 = .ok (.aload_n 0, 1) := by decide +kernel
theorem dX4_tryToPark_27 : decode cX4_tryToPark 27 = .ok (.iload_n 3, 1) := by decide +kernel
theorem dX4_tryToPark_28 : decode cX4_tryToPark 28 = .ok (.iload_n 2, 1) := by decide +kernel
theorem dX4_tryToPark_29 : decode cX4_tryToPark 29 = .ok (.iload_n 1, 1) := by decide +kernel
theorem dX4_tryToPark_30 : decode cX4_tryToPark 30 = .ok (.invokevirtual 132, 3) := by decide +kernel
theorem dX4_tryToPark_33 : decode cX4_tryToPark 33 = .ok (.aload_n 0, 1) := by decide +kernel
theorem dX4_tryToPark_34 : decode cX4_tryToPark 34 = .ok (.getfield 27, 3) := by decide +kernel
theorem dX4_tryToPark_37 : decode cX4_tryToPark 37 = .ok (.iload_n 1, 1) := by decide +kernel
theorem dX4_tryToPark_38 : decode cX4_tryToPark 38 = .ok (.iload_n 3, 1) := by decide +kernel
theorem dX4_tryToPark_39 : decode cX4_tryToPark 39 = .ok (.invokestatic 88, 3) := by decide +kernel
theorem dX4_tryToPark_42 : decode cX4_tryToPark 42 = .ok (.aload_n 0, 1) := by decide +kernel
theorem dX4_tryToPark_43 : decode cX4_tryToPark 43 = .ok (.getfield 24, 3) := by decide +kernel
theorem dX4_tryToPark_46 : decode cX4_tryToPark 46 = .ok (.iload_n 1, 1) := by decide +kernel
theorem dX4_tryToPark_47 : decode cX4_tryToPark 47 = .ok (.iconst 0, 1) := by decide +kernel
theorem dX4_tryToPark_48 : decode cX4_tryToPark 48 = .ok (.invokestatic 88, 3) := by decide +kernel
theorem dX4_tryToPark_51 : decode cX4_tryToPark 51 = .ok (.iconst 1, 1) := by decide +kernel
theorem dX4_tryToPark_52 : decode cX4_tryToPark 52 = .ok (.ireturn, 1) := by decide +kernel
set_option maxRecDepth 20000 in
theorem ggX4_depart_X4_isParked : GoodIn wsX4_depart wsX4_isParked := goodIn_r _ [8, 3, 9, 10, 11, 7, 12, 13, 14, 15, 16, 29, 30, 31, 32, 33, 34, 35, 36, 37, 38, 39, 40, 41, 42] rfl (by decide +kernel)
set_option maxRecDepth 20000 in
theorem gX4_depart_X4_isParked : GoodIn wsX4_depart (wsV RX4 136 RX4 yX4_isParked wsX4_isParked) := goodIn_app (goodIn_r _ [4, 5, 6, 7] rfl (by decide +kernel)) ggX4_depart_X4_isParked
set_option maxRecDepth 20000 in
theorem ggX4_depart_X6_get : GoodIn wsX4_depart wsX6_get := goodIn_r _ [16] rfl (by decide +kernel)
set_option maxRecDepth 20000 in
theorem gX4_depart_X6_get_n84 : GoodIn wsX4_depart (wsX6_get) := ggX4_depart_X6_get
set_option maxRecDepth 20000 in
theorem ggX4_depart_X4_occupy : GoodIn wsX4_depart wsX4_occupy := goodIn_r _ [20, 21, 22, 15, 23, 24, 25, 26, 7, 27, 28, 29, 30, 31, 32, 33, 34, 35, 36, 37, 38, 39, 40, 41, 42] rfl (by decide +kernel)
set_option maxRecDepth 20000 in
theorem gX4_depart_X4_occupy : GoodIn wsX4_depart (wsV RX4 132 RX4 yX4_occupy wsX4_occupy) := goodIn_app (goodIn_r _ [17, 18, 19, 7] rfl (by decide +kernel)) ggX4_depart_X4_occupy
set_option maxRecDepth 20000 in
theorem ggX4_depart_X6_put : GoodIn wsX4_depart wsX6_put := goodIn_r _ [23] rfl (by decide +kernel)
set_option maxRecDepth 20000 in
theorem gX4_depart_X6_put_n88 : GoodIn wsX4_depart (wsX6_put) := ggX4_depart_X6_put
theorem dX4_depart_0 : decode cX4_depart 0 = .ok (.aload_n 0, 1) := by decide +kernel
theorem dX4_depart_1 : decode cX4_depart 1 = .ok (.iload_n 1, 1) := by decide +kernel
theorem dX4_depart_2 : decode cX4_depart 2 = .ok (.invokevirtual 136, 3) := by decide +kernel
theorem dX4_depart_5 : decode cX4_depart 5 = .ok (.ifCond .ne 5, 3) := by decide +kernel
theorem dX4_depart_8 : decode cX4_depart 8 = .ok (.iconst (-1), 1) := by decide +kernel
theorem dX4_depart_9 : decode cX4_depart 9 = .ok (.ireturn, 1) := by decide +kernel
theorem dX4_depart_10 : decode cX4_depart 10 = .ok (.aload_n 0, 1) := by decide +kernel
theorem dX4_depart_11 : decode cX4_depart 11 = .ok (.getfield 27, 3) := by decide +kernel
theorem dX4_depart_14 : decode cX4_depart 14 = .ok (.iload_n 1, 1) := by decide +kernel
theorem dX4_depart_15 : decode cX4_depart 15 = .ok (.invokestatic 84, 3) := by decide +kernel
theorem dX4_depart_18 : decode cX4_depart 18 = .ok (.istore_n 3, 1) := by decide +kernel
theorem dX4_depart_19 : decode cX4_depart 19 = .ok (.aload_n 0, 1) := by decide +kernel
theorem dX4_depart_20 : decode cX4_depart 20 = .ok (.iload_n 3, 1) := by decide +kernel
theorem dX4_depart_21 : decode cX4_depart 21 = .ok (.aload_n 0, 1) := by decide +kernel
theorem dX4_depart_22 : decode cX4_depart 22 = .ok (.getfield 18, 3) := by decide +kernel
theorem dX4_depart_25 : decode cX4_depart 25 = .ok (.iload_n 1, 1) := by decide +kernel
theorem dX4_depart_26 : decode cX4_depart 26 = .ok (.invokestatic 84, 3) := by decide +kernel
theorem dX4_depart_29 : decode cX4_depart 29 = .ok (.iconst (-1), 1) := by decide +kernel
theorem dX4_depart_30 : decode cX4_depart 30 = .ok (.invokevirtual 132, 3) := by decide +kernel
theorem dX4_depart_33 : decode cX4_depart 33 = .ok (.aload_n 0, 1) := by decide +kernel
theorem dX4_depart_34 : decode cX4_depart 34 = .ok (.getfield 27, 3) := by decide +kernel
theorem dX4_depart_37 : decode cX4_depart 37 = .ok (.iload_n 1, 1) := by decide +kernel
theorem dX4_depart_38 : decode cX4_depart 38 = .ok (.iconst (-1), 1) := by decide +kernel
theorem dX4_depart_39 : decode cX4_depart 39 = .ok (.invokestatic 88, 3) := by decide +kernel
theorem dX4_depart_42 : decode cX4_depart 42 = .ok (.aload_n 0, 1) := by decide +kernel
theorem dX4_depart_43 : decode cX4_depart 43 = .ok (.getfield 24, 3) := by decide +kernel
theorem dX4_depart_46 : decode cX4_depart 46 = .ok (.iload_n 1, 1) := by decide +kernel
theorem dX4_depart_47 : decode cX4_depart 47 = .ok (.iload_n 2, 1) := by decide +kernel
theorem dX4_depart_48 : decode cX4_depart 48 = .ok (.invokestatic 88, 3) := by decide +kernel
theorem dX4_depart_51 : decode cX4_depart 51 = .ok (.iload_n 3, 1) := by decide +kernel
theorem dX4_depart_52 : decode cX4_depart 52 = .ok (.ireturn, 1) := by decide +kernel
set_option maxRecDepth 20000 in
theorem ggX4_canShift_X6_get : GoodIn wsX4_canShift wsX6_get := goodIn_r _ [6] rfl (by decide +kernel)
set_option maxRecDepth 20000 in
theorem gX4_canShift_X6_get_n84 : GoodIn wsX4_canShift (wsX6_get) := ggX4_canShift_X6_get
set_option maxRecDepth 20000 in
theorem ggX4_canShift_X4_isParked : GoodIn wsX4_canShift wsX4_isParked := goodIn_r _ [11, 12, 13, 14, 15, 10, 16, 17, 4, 5, 6, 24, 25, 26, 27, 28, 29, 30, 31, 32, 33, 34, 35, 36, 37] rfl (by decide +kernel)
set_option maxRecDepth 20000 in
theorem gX4_canShift_X4_isParked : GoodIn wsX4_canShift (wsV RX4 136 RX4 yX4_isParked wsX4_isParked) := goodIn_app (goodIn_r _ [7, 8, 9, 10] rfl (by decide +kernel)) ggX4_canShift_X4_isParked
set_option maxRecDepth 20000 in
theorem ggX4_canShift_X6_isCell : GoodIn wsX4_canShift wsX6_isCell := goodIn_r _ [19] rfl (by decide +kernel)
set_option maxRecDepth 20000 in
theorem gX4_canShift_X6_isCell_n80 : GoodIn wsX4_canShift (wsX6_isCell) := ggX4_canShift_X6_isCell
set_option maxRecDepth 20000 in
theorem ggX4_canShift_X4_isFree : GoodIn wsX4_canShift wsX4_isFree := goodIn_r _ [23, 3, 18, 5, 19, 4, 6, 24, 25, 26, 27, 28, 29, 30, 31, 32, 33, 34, 35, 36, 37] rfl (by decide +kernel)
set_option maxRecDepth 20000 in
theorem gX4_canShift_X4_isFree : GoodIn wsX4_canShift (wsV RX4 139 RX4 yX4_isFree wsX4_isFree) := goodIn_app (goodIn_r _ [20, 21, 22, 10] rfl (by decide +kernel)) ggX4_canShift_X4_isFree
theorem dX4_canShift_0 : decode cX4_canShift 0 = .ok (.aload_n 0, 1) := by decide +kernel
theorem dX4_canShift_1 : decode cX4_canShift 1 = .ok (.getfield 27, 3) := by decide +kernel
theorem dX4_canShift_4 : decode cX4_canShift 4 = .ok (.iload_n 1, 1) := by decide +kernel
theorem dX4_canShift_5 : decode cX4_canShift 5 = .ok (.invokestatic 84, 3) := by decide +kernel
theorem dX4_canShift_8 : decode cX4_canShift 8 = .ok (.istore_n 3, 1) := by decide +kernel
theorem dX4_canShift_9 : decode cX4_canShift 9 = .ok (.aload_n 0, 1) := by decide +kernel
theorem dX4_canShift_10 : decode cX4_canShift 10 = .ok (.getfield 18, 3) := by decide +kernel
theorem dX4_canShift_13 : decode cX4_canShift 13 = .ok (.iload_n 1, 1) := by decide +kernel
theorem dX4_canShift_14 : decode cX4_canShift 14 = .ok (.invokestatic 84, 3) := by decide +kernel
theorem dX4_canShift_17 : decode cX4_canShift 17 = .ok (.istore 4, 2) := by decide +kernel
theorem dX4_canShift_19 : decode cX4_canShift 19 = .ok (.aload_n 0, 1) := by decide +kernel
theorem dX4_canShift_20 : decode cX4_canShift 20 = .ok (.iload_n 1, 1) := by decide +kernel
theorem dX4_canShift_21 : decode cX4_canShift 21 = .ok (.invokevirtual 136, 3) := by decide +kernel
theorem dX4_canShift_24 : decode cX4_canShift 24 = .ok (.ifCond .eq 19, 3) := by decide +kernel
theorem dX4_canShift_27 : decode cX4_canShift 27 = .ok (.iload_n 2, 1) := by decide +kernel
theorem dX4_canShift_28 : decode cX4_canShift 28 = .ok (.invokestatic 80, 3) := by decide +kernel
theorem dX4_canShift_31 : decode cX4_canShift 31 = .ok (.ifCond .eq 12, 3) := by decide +kernel
theorem dX4_canShift_34 : decode cX4_canShift 34 = .ok (.iload_n 2, 1) := by decide +kernel
theorem dX4_canShift_35 : decode cX4_canShift 35 = .ok (.iload 4, 2) := by decide +kernel
theorem dX4_canShift_37 : decode cX4_canShift 37 = .ok (.iadd, 1) := by decide +kernel
theorem dX4_canShift_38 : decode cX4_canShift 38 = .ok (.bipush 80, 2) := by decide +kernel
theorem dX4_canShift_40 : decode cX4_canShift 40 = .ok (.if_icmp .le 5, 3) := by decide +kernel
theorem dX4_canShift_43 : decode cX4_canShift 43 = .ok (.iconst 0, 1) := by decide +kernel
theorem dX4_canShift_44 : decode cX4_canShift 44 = .ok (.ireturn, 1) := by decide +kernel
theorem dX4_canShift_45 : decode cX4_canShift 45 = .ok (.iload_n 3, 1) := by decide +kernel
theorem dX4_canShift_46 : decode cX4_canShift 46 = .ok (.iload_n 2, 1) := by decide +kernel
theorem dX4_canShift_47 : decode cX4_canShift 47 = .ok (.if_icmp .le 7, 3) := by decide +kernel
theorem dX4_canShift_50 : decode cX4_canShift 50 = .ok (.iload_n 3, 1) := by decide +kernel
theorem dX4_canShift_51 : decode cX4_canShift 51 = .ok (.goto 4, 3) := by decide +kernel
theorem dX4_canShift_54 : decode cX4_canShift 54 = .ok (.iload_n 2, 1) := by decide +kernel
theorem dX4_canShift_55 : decode cX4_canShift 55 = .ok (.iload 4, 2) := by decide +kernel
theorem dX4_canShift_57 : decode cX4_canShift 57 = .ok (.iadd, 1) := by decide +kernel
theorem dX4_canShift_58 : decode cX4_canShift 58 = .ok (.istore 5, 2) := by decide +kernel
theorem dX4_canShift_60 : decode cX4_canShift 60 = .ok (.iload_n 3, 1) := by decide +kernel
theorem dX4_canShift_61 : decode cX4_canShift 61 = .ok (.iload_n 2, 1) := by decide +kernel
theorem dX4_canShift_62 : decode cX4_canShift 62 = .ok (.if_icmp .ge 7, 3) := by decide +kernel
theorem dX4_canShift_65 : decode cX4_canShift 65 = .ok (.iload_n 3, 1) := by decide +kernel
theorem dX4_canShift_66 : decode cX4_canShift 66 = .ok (.goto 4, 3) := by decide +kernel
theorem dX4_canShift_69 : decode cX4_canShift 69 = .ok (.iload_n 2, 1) := by decide +kernel
theorem dX4_canShift_70 : decode cX4_canShift 70 = .ok (.istore 6, 2) := by decide +kernel
theorem dX4_canShift_72 : decode cX4_canShift 72 = .ok (.iload 6, 2) := by decide +kernel
theorem dX4_canShift_74 : decode cX4_canShift 74 = .ok (.iload 5, 2) := by decide +kernel
theorem dX4_canShift_76 : decode cX4_canShift 76 = .ok (.if_icmp .ge 33, 3) := by decide +kernel
theorem dX4_canShift_79 : decode cX4_canShift 79 = .ok (.aload_n 0, 1) := by decide +kernel
theorem dX4_canShift_80 : decode cX4_canShift 80 = .ok (.iload 6, 2) := by decide +kernel
theorem dX4_canShift_82 : decode cX4_canShift 82 = .ok (.invokevirtual 139, 3) := by decide +kernel
theorem dX4_canShift_85 : decode cX4_canShift 85 = .ok (.ifCond .ne 18, 3) := by decide +kernel
theorem dX4_canShift_88 : decode cX4_canShift 88 = .ok (.aload_n 0, 1) := by decide +kernel
theorem dX4_canShift_89 : decode cX4_canShift 89 = .ok (.getfield 9, 3) := by decide +kernel
theorem dX4_canShift_92 : decode cX4_canShift 92 = .ok (.iload 6, 2) := by decide +kernel
theorem dX4_canShift_94 : decode cX4_canShift 94 = .ok (.invokestatic 84, 3) := by decide +kernel
theorem dX4_canShift_97 : decode cX4_canShift 97 = .ok (.iload_n 1, 1) := by decide +kernel
theorem dX4_canShift_98 : decode cX4_canShift 98 = .ok (.if_icmp .eq 5, 3) := by decide +kernel
theorem dX4_canShift_101 : decode cX4_canShift 101 = .ok (.iconst 0, 1) := by decide +kernel
theorem dX4_canShift_102 : decode cX4_canShift 102 = .ok (.ireturn, 1) := by decide +kernel
theorem dX4_canShift_103 : decode cX4_canShift 103 = .ok (.iinc 6 1, 3) := by decide +kernel
theorem dX4_canShift_106 : decode cX4_canShift 106 = .ok (.goto (-34), 3) := by decide +kernel
theorem dX4_canShift_109 : decode cX4_canShift 109 = .ok (.iconst 1, 1) := by decide +kernel
theorem dX4_canShift_110 : decode cX4_canShift 110 = .ok (.ireturn, 1) := by decide +kernel
set_option maxRecDepth 20000 in
theorem ggX4_shift_X4_canShift : GoodIn wsX4_shift wsX4_canShift := goodIn_r _ [7, 1, 2, 8, 9, 10, 11, 12, 13, 14, 6, 15, 16, 17, 18, 19, 20, 21, 22, 23, 24, 25, 26, 27, 39, 40, 41, 42, 43, 44, 45, 46, 47, 48, 49, 50, 51, 52] rfl (by decide +kernel)
set_option maxRecDepth 20000 in
theorem gX4_shift_X4_canShift : GoodIn wsX4_shift (wsV RX4 142 RX4 yX4_canShift wsX4_canShift) := goodIn_app (goodIn_r _ [3, 4, 5, 6] rfl (by decide +kernel)) ggX4_shift_X4_canShift
set_option maxRecDepth 20000 in
theorem ggX4_shift_X6_get : GoodIn wsX4_shift wsX6_get := goodIn_r _ [11] rfl (by decide +kernel)
set_option maxRecDepth 20000 in
theorem gX4_shift_X6_get_n84 : GoodIn wsX4_shift (wsX6_get) := ggX4_shift_X6_get
set_option maxRecDepth 20000 in
theorem ggX4_shift_X4_occupy : GoodIn wsX4_shift wsX4_occupy := goodIn_r _ [31, 8, 32, 10, 33, 34, 35, 36, 6, 37, 38, 39, 40, 41, 42, 43, 44, 45, 46, 47, 48, 49, 50, 51, 52] rfl (by decide +kernel)
set_option maxRecDepth 20000 in
theorem gX4_shift_X4_occupy : GoodIn wsX4_shift (wsV RX4 132 RX4 yX4_occupy wsX4_occupy) := goodIn_app (goodIn_r _ [28, 29, 30, 6] rfl (by decide +kernel)) ggX4_shift_X4_occupy
set_option maxRecDepth 20000 in
theorem ggX4_shift_X6_put : GoodIn wsX4_shift wsX6_put := goodIn_r _ [33] rfl (by decide +kernel)
set_option maxRecDepth 20000 in
theorem gX4_shift_X6_put_n88 : GoodIn wsX4_shift (wsX6_put) := ggX4_shift_X6_put
theorem dX4_shift_0 : decode cX4_shift 0 = .ok (.aload_n 0, 1) := by decide +kernel
theorem dX4_shift_1 : decode cX4_shift 1 = .ok (.iload_n 1, 1) := by decide +kernel
theorem dX4_shift_2 : decode cX4_shift 2 = .ok (.iload_n 2, 1) := by decide +kernel
theorem dX4_shift_3 : decode cX4_shift 3 = .ok (.invokevirtual 142, 3) := by decide +kernel
theorem dX4_shift_6 : decode cX4_shift 6 = .ok (.ifCond .ne 5, 3) := by decide +kernel
theorem dX4_shift_9 : decode cX4_shift 9 = .ok (.iconst (-1), 1) := by decide +kernel
theorem dX4_shift_10 : decode cX4_shift 10 = .ok (.ireturn, 1) := by decide +kernel
theorem dX4_shift_11 : decode cX4_shift 11 = .ok (.aload_n 0, 1) := by decide +kernel
theorem dX4_shift_12 : decode cX4_shift 12 = .ok (.getfield 27, 3) := by decide +kernel
theorem dX4_shift_15 : decode cX4_shift 15 = .ok (.iload_n 1, 1) := by decide +kernel
theorem dX4_shift_16 : decode cX4_shift 16 = .ok (.invokestatic 84, 3) := by decide +kernel
theorem dX4_shift_19 : decode cX4_shift 19 = .ok (.istore_n 3, 1) := by decide +kernel
theorem dX4_shift_20 : decode cX4_shift 20 = .ok (.aload_n 0, 1) := by decide +kernel
theorem dX4_shift_21 : decode cX4_shift 21 = .ok (.getfield 18, 3) := by decide +kernel
theorem dX4_shift_24 : decode cX4_shift 24 = .ok (.iload_n 1, 1) := by decide +kernel
theorem dX4_shift_25 : decode cX4_shift 25 = .ok (.invokestatic 84, 3) := by decide +kernel
theorem dX4_shift_28 : decode cX4_shift 28 = .ok (.istore 4, 2) := by decide +kernel
theorem dX4_shift_30 : decode cX4_shift 30 = .ok (.aload_n 0, 1) := by decide +kernel
theorem dX4_shift_31 : decode cX4_shift 31 = .ok (.iload_n 3, 1) := by decide +kernel
theorem dX4_shift_32 : decode cX4_shift 32 = .ok (.iload 4, 2) := by decide +kernel
theorem dX4_shift_34 : decode cX4_shift 34 = .ok (.iconst (-1), 1) := by decide +kernel
theorem dX4_shift_35 : decode cX4_shift 35 = .ok (.invokevirtual 132, 3) := by decide +kernel
theorem dX4_shift_38 : decode cX4_shift 38 = .ok (.aload_n 0, 1) := by decide +kernel
theorem dX4_shift_39 : decode cX4_shift 39 = .ok (.iload_n 2, 1) := by decide +kernel
theorem dX4_shift_40 : decode cX4_shift 40 = .ok (.iload 4, 2) := by decide +kernel
theorem dX4_shift_42 : decode cX4_shift 42 = .ok (.iload_n 1, 1) := by decide +kernel
theorem dX4_shift_43 : decode cX4_shift 43 = .ok (.invokevirtual 132, 3) := by decide +kernel
theorem dX4_shift_46 : decode cX4_shift 46 = .ok (.aload_n 0, 1) := by decide +kernel
theorem dX4_shift_47 : decode cX4_shift 47 = .ok (.getfield 27, 3) := by decide +kernel
theorem dX4_shift_50 : decode cX4_shift 50 = .ok (.iload_n 1, 1) := by decide +kernel
theorem dX4_shift_51 : decode cX4_shift 51 = .ok (.iload_n 2, 1) := by decide +kernel
theorem dX4_shift_52 : decode cX4_shift 52 = .ok (.invokestatic 88, 3) := by decide +kernel
theorem dX4_shift_55 : decode cX4_shift 55 = .ok (.iload_n 3, 1) := by decide +kernel
theorem dX4_shift_56 : decode cX4_shift 56 = .ok (.iload_n 2, 1) := by decide +kernel
theorem dX4_shift_57 : decode cX4_shift 57 = .ok (.if_icmp .ge 9, 3) := by decide +kernel
theorem dX4_shift_60 : decode cX4_shift 60 = .ok (.iload_n 2, 1) := by decide +kernel
theorem dX4_shift_61 : decode cX4_shift 61 = .ok (.iload_n 3, 1) := by decide +kernel
theorem dX4_shift_62 : decode cX4_shift 62 = .ok (.isub, 1) := by decide +kernel
theorem dX4_shift_63 : decode cX4_shift 63 = .ok (.goto 6, 3) := by decide +kernel
theorem dX4_shift_66 : decode cX4_shift 66 = .ok (.iload_n 3, 1) := by decide +kernel
theorem dX4_shift_67 : decode cX4_shift 67 = .ok (.iload_n 2, 1) := by decide +kernel
theorem dX4_shift_68 : decode cX4_shift 68 = .ok (.isub, 1) := by decide +kernel
theorem dX4_shift_69 : decode cX4_shift 69 = .ok (.ireturn, 1) := by decide +kernel
set_option maxRecDepth 20000 in
theorem ggX4_allowsHydrant_X6_isCell : GoodIn wsX4_allowsHydrant wsX6_isCell := goodIn_r _ [4] rfl (by decide +kernel)
set_option maxRecDepth 20000 in
theorem gX4_allowsHydrant_X6_isCell_n80 : GoodIn wsX4_allowsHydrant (wsX6_isCell) := ggX4_allowsHydrant_X6_isCell
set_option maxRecDepth 20000 in
theorem ggX4_allowsHydrant_X4_isFree : GoodIn wsX4_allowsHydrant wsX4_isFree := goodIn_r _ [9, 1, 2, 3, 4, 10, 11, 12, 13, 14, 15, 16, 17, 18, 19, 20, 21, 22, 23, 24, 25] rfl (by decide +kernel)
set_option maxRecDepth 20000 in
theorem gX4_allowsHydrant_X4_isFree : GoodIn wsX4_allowsHydrant (wsV RX4 139 RX4 yX4_isFree wsX4_isFree) := goodIn_app (goodIn_r _ [5, 6, 7, 8] rfl (by decide +kernel)) ggX4_allowsHydrant_X4_isFree
set_option maxRecDepth 20000 in
theorem ggX4_allowsHydrant_X6_get : GoodIn wsX4_allowsHydrant wsX6_get := goodIn_r _ [11] rfl (by decide +kernel)
set_option maxRecDepth 20000 in
theorem gX4_allowsHydrant_X6_get_n84 : GoodIn wsX4_allowsHydrant (wsX6_get) := ggX4_allowsHydrant_X6_get
theorem dX4_allowsHydrant_0 : decode cX4_allowsHydrant 0 = .ok (.iload_n 1, 1) := by decide +kernel
theorem dX4_allowsHydrant_1 : decode cX4_allowsHydrant 1 = .ok (.invokestatic 80, 3) := by decide +kernel
theorem dX4_allowsHydrant_4 : decode cX4_allowsHydrant 4 = .ok (.ifCond .eq 32, 3) := by decide +kernel
theorem dX4_allowsHydrant_7 : decode cX4_allowsHydrant 7 = .ok (.iload_n 2, 1) := by decide +kernel
theorem dX4_allowsHydrant_8 : decode cX4_allowsHydrant 8 = .ok (.ifCond .eq 24, 3) := by decide +kernel
theorem dX4_allowsHydrant_11 : decode cX4_allowsHydrant 11 = .ok (.aload_n 0, 1) := by decide +kernel
theorem dX4_allowsHydrant_12 : decode cX4_allowsHydrant 12 = .ok (.iload_n 1, 1) := by decide +kernel
theorem dX4_allowsHydrant_13 : decode cX4_allowsHydrant 13 = .ok (.invokevirtual 139, 3) := by decide +kernel
theorem dX4_allowsHydrant_16 : decode cX4_allowsHydrant 16 = .ok (.ifCond .ne 16, 3) := by decide +kernel
theorem dX4_allowsHydrant_19 : decode cX4_allowsHydrant 19 = .ok (.aload_n 0, 1) := by decide +kernel
theorem dX4_allowsHydrant_20 : decode cX4_allowsHydrant 20 = .ok (.getfield 9, 3) := by decide +kernel
theorem dX4_allowsHydrant_23 : decode cX4_allowsHydrant 23 = .ok (.iload_n 1, 1) := by decide +kernel
theorem dX4_allowsHydrant_24 : decode cX4_allowsHydrant 24 = .ok (.invokestatic 84, 3) := by decide +kernel
theorem dX4_allowsHydrant_27 : decode cX4_allowsHydrant 27 = .ok (.bipush 100, 2) := by decide +kernel
theorem dX4_allowsHydrant_29 : decode cX4_allowsHydrant 29 = .ok (.if_icmp .ne 7, 3) := by decide +kernel
theorem dX4_allowsHydrant_32 : decode cX4_allowsHydrant 32 = .ok (.iconst 1, 1) := by decide +kernel
theorem dX4_allowsHydrant_33 : decode cX4_allowsHydrant 33 = .ok (.goto 4, 3) := by decide +kernel
theorem dX4_allowsHydrant_36 : decode cX4_allowsHydrant 36 = .ok (.iconst 0, 1) := by decide +kernel
theorem dX4_allowsHydrant_37 : decode cX4_allowsHydrant 37 = .ok (.ireturn, 1) := by decide +kernel
set_option maxRecDepth 20000 in
theorem ggX4_putHydrant_X4_allowsHydrant : GoodIn wsX4_putHydrant wsX4_allowsHydrant := goodIn_r _ [6, 1, 7, 8, 9, 10, 11, 12, 5, 13, 14, 15, 31, 32, 33, 34, 35, 36, 37, 38, 39, 40, 41, 42, 43, 44] rfl (by decide +kernel)
set_option maxRecDepth 20000 in
theorem gX4_putHydrant_X4_allowsHydrant : GoodIn wsX4_putHydrant (wsV RX4 145 RX4 yX4_allowsHydrant wsX4_allowsHydrant) := goodIn_app (goodIn_r _ [2, 3, 4, 5] rfl (by decide +kernel)) ggX4_putHydrant_X4_allowsHydrant
set_option maxRecDepth 20000 in
theorem ggX4_putHydrant_X4_occupy : GoodIn wsX4_putHydrant wsX4_occupy := goodIn_r _ [19, 1, 20, 8, 21, 22, 23, 24, 5, 25, 26, 31, 32, 33, 34, 35, 36, 37, 38, 39, 40, 41, 42, 43, 44] rfl (by decide +kernel)
set_option maxRecDepth 20000 in
theorem gX4_putHydrant_X4_occupy : GoodIn wsX4_putHydrant (wsV RX4 132 RX4 yX4_occupy wsX4_occupy) := goodIn_app (goodIn_r _ [16, 17, 18, 5] rfl (by decide +kernel)) ggX4_putHydrant_X4_occupy
set_option maxRecDepth 20000 in
theorem ggX4_putHydrant_X6_get : GoodIn wsX4_putHydrant wsX6_get := goodIn_r _ [15] rfl (by decide +kernel)
set_option maxRecDepth 20000 in
theorem gX4_putHydrant_X6_get_n84 : GoodIn wsX4_putHydrant (wsX6_get) := ggX4_putHydrant_X6_get
set_option maxRecDepth 20000 in
theorem ggX4_putHydrant_X4_cellsWith : GoodIn wsX4_putHydrant wsX4_cellsWith := goodIn_r _ [30, 1, 31, 32, 33, 34, 35, 36, 37, 38, 39, 40, 41, 42, 43, 44] rfl (by decide +kernel)
set_option maxRecDepth 20000 in
theorem gX4_putHydrant_X4_cellsWith : GoodIn wsX4_putHydrant (wsV RX4 149 RX4 yX4_cellsWith wsX4_cellsWith) := goodIn_app (goodIn_r _ [27, 28, 29, 5] rfl (by decide +kernel)) ggX4_putHydrant_X4_cellsWith
theorem dX4_putHydrant_0 : decode cX4_putHydrant 0 = .ok (.aload_n 0, 1) := by decide +kernel
theorem dX4_putHydrant_1 : decode cX4_putHydrant 1 = .ok (.iload_n 1, 1) := by decide +kernel
theorem dX4_putHydrant_2 : decode cX4_putHydrant 2 = .ok (.iload_n 2, 1) := by decide +kernel
theorem dX4_putHydrant_3 : decode cX4_putHydrant 3 = .ok (.invokevirtual 145, 3) := by decide +kernel
theorem dX4_putHydrant_6 : decode cX4_putHydrant 6 = .ok (.ifCond .ne 5, 3) := by decide +kernel
theorem dX4_putHydrant_9 : decode cX4_putHydrant 9 = .ok (.iconst (-1), 1) := by decide +kernel
theorem dX4_putHydrant_10 : decode cX4_putHydrant 10 = .ok (.ireturn, 1) := by decide +kernel
theorem dX4_putHydrant_11 : decode cX4_putHydrant 11 = .ok (.iload_n 2, 1) := by decide +kernel
theorem dX4_putHydrant_12 : decode cX4_putHydrant 12 = .ok (.ifCond .eq 14, 3) := by decide +kernel
theorem dX4_putHydrant_15 : decode cX4_putHydrant 15 = .ok (.aload_n 0, 1) := by decide +kernel
theorem dX4_putHydrant_16 : decode cX4_putHydrant 16 = .ok (.iload_n 1, 1) := by decide +kernel
theorem dX4_putHydrant_17 : decode cX4_putHydrant 17 = .ok (.iconst 1, 1) := by decide +kernel
theorem dX4_putHydrant_18 : decode cX4_putHydrant 18 = .ok (.bipush 100, 2) := by decide +kernel
theorem dX4_putHydrant_20 : decode cX4_putHydrant 20 = .ok (.invokevirtual 132, 3) := by decide +kernel
theorem dX4_putHydrant_23 : decode cX4_putHydrant 23 = .ok (.goto 23, 3) := by decide +kernel
theorem dX4_putHydrant_26 : decode cX4_putHydrant 26 = .ok (.aload_n 0, 1) := by decide +kernel
theorem dX4_putHydrant_27 : decode cX4_putHydrant 27 = .ok (.getfield 9, 3) := by decide +kernel
theorem dX4_putHydrant_30 : decode cX4_putHydrant 30 = .ok (.iload_n 1, 1) := by decide +kernel
theorem dX4_putHydrant_31 : decode cX4_putHydrant 31 = .ok (.invokestatic 84, 3) := by decide +kernel
theorem dX4_putHydrant_34 : decode cX4_putHydrant 34 = .ok (.bipush 100, 2) := by decide +kernel
theorem dX4_putHydrant_36 : decode cX4_putHydrant 36 = .ok (.if_icmp .ne 10, 3) := by decide +kernel
theorem dX4_putHydrant_39 : decode cX4_putHydrant 39 = .ok (.aload_n 0, 1) := by decide +kernel
theorem dX4_putHydrant_40 : decode cX4_putHydrant 40 = .ok (.iload_n 1, 1) := by decide +kernel
theorem dX4_putHydrant_41 : decode cX4_putHydrant 41 = .ok (.iconst 1, 1) := by decide +kernel
theorem dX4_putHydrant_42 : decode cX4_putHydrant 42 = .ok (.iconst (-1), 1) := by decide +kernel
theorem dX4_putHydrant_43 : decode cX4_putHydrant 43 = .ok (.invokevirtual 132, 3) := by decide +kernel
theorem dX4_putHydrant_46 : decode cX4_putHydrant 46 = .ok (.aload_n 0, 1) := by decide +kernel
theorem dX4_putHydrant_47 : decode cX4_putHydrant 47 = .ok (.bipush 100, 2) := by decide +kernel
theorem dX4_putHydrant_49 : decode cX4_putHydrant 49 = .ok (.invokevirtual 149, 3) := by decide +kernel
theorem dX4_putHydrant_52 : decode cX4_putHydrant 52 = .ok (.ireturn, 1) := by decide +kernel
set_option maxRecDepth 20000 in
theorem ggX4_passMinutes_X6_isMinutes : GoodIn wsX4_passMinutes wsX6_isMinutes := goodIn_r _ [4] rfl (by decide +kernel)
set_option maxRecDepth 20000 in
theorem gX4_passMinutes_X6_isMinutes_n152 : GoodIn wsX4_passMinutes (wsX6_isMinutes) := ggX4_passMinutes_X6_isMinutes
set_option maxRecDepth 20000 in
theorem ggX4_passMinutes_X4_letParkedCarsLeave : GoodIn wsX4_passMinutes wsX4_letParkedCarsLeave := goodIn_r _ [9, 10, 11, 12, 13, 14, 8, 15, 16, 17, 18, 19, 20, 21, 3, 22, 23, 24, 25, 26, 27, 28, 29, 30, 31, 32, 33, 34, 35, 36, 37, 38, 39, 40, 41, 42, 43, 44, 45, 87, 88, 89, 90, 91, 92, 93, 94, 95, 96, 97, 98, 99, 100] rfl (by decide +kernel)
set_option maxRecDepth 20000 in
theorem gX4_passMinutes_X4_letParkedCarsLeave : GoodIn wsX4_passMinutes (wsV RX4 155 RX4 yX4_letParkedCarsLeave wsX4_letParkedCarsLeave) := goodIn_app (goodIn_r _ [5, 6, 7, 8] rfl (by decide +kernel)) ggX4_passMinutes_X4_letParkedCarsLeave
set_option maxRecDepth 20000 in
theorem ggX4_passMinutes_X4_letCarsGoRound : GoodIn wsX4_passMinutes wsX4_letCarsGoRound := goodIn_r _ [49, 10, 16, 21, 3, 22, 50, 51, 52, 8, 53, 35, 34, 54, 55, 56, 57, 58, 59, 60, 61, 62, 63, 64, 65, 66, 67, 45, 68, 69, 70, 71, 72, 73, 74, 75, 76, 77, 78, 79, 80, 36, 37, 38, 39, 40, 23, 24, 41, 42, 43, 44, 81, 82, 83, 84, 85, 86, 87, 88, 89, 90, 91, 92, 93, 94, 95, 96, 97, 98, 99, 100] rfl (by decide +kernel)
set_option maxRecDepth 20000 in
theorem gX4_passMinutes_X4_letCarsGoRound : GoodIn wsX4_passMinutes (wsV RX4 158 RX4 yX4_letCarsGoRound wsX4_letCarsGoRound) := goodIn_app (goodIn_r _ [46, 47, 48, 8] rfl (by decide +kernel)) ggX4_passMinutes_X4_letCarsGoRound
theorem dX4_passMinutes_0 : decode cX4_passMinutes 0 = .ok (.iload_n 1, 1) := by decide +kernel
theorem dX4_passMinutes_1 : decode cX4_passMinutes 1 = .ok (.invokestatic 152, 3) := by decide +kernel
theorem dX4_passMinutes_4 : decode cX4_passMinutes 4 = .ok (.ifCond .ne 5, 3) := by decide +kernel
theorem dX4_passMinutes_7 : decode cX4_passMinutes 7 = .ok (.iconst (-1), 1) := by decide +kernel
theorem dX4_passMinutes_8 : decode cX4_passMinutes 8 = .ok (.ireturn, 1) := by decide +kernel
theorem dX4_passMinutes_9 : decode cX4_passMinutes 9 = .ok (.iconst 0, 1) := by decide +kernel
theorem dX4_passMinutes_10 : decode cX4_passMinutes 10 = .ok (.istore_n 2, 1) := by decide +kernel
theorem dX4_passMinutes_11 : decode cX4_passMinutes 11 = .ok (.iconst 0, 1) := by decide +kernel
theorem dX4_passMinutes_12 : decode cX4_passMinutes 12 = .ok (.istore_n 3, 1) := by decide +kernel
theorem dX4_passMinutes_13 : decode cX4_passMinutes 13 = .ok (.iload_n 3, 1) := by decide +kernel
theorem dX4_passMinutes_14 : decode cX4_passMinutes 14 = .ok (.iload_n 1, 1) := by decide +kernel
theorem dX4_passMinutes_15 : decode cX4_passMinutes 15 = .ok (.if_icmp .ge 30, 3) := by decide +kernel
theorem dX4_passMinutes_18 : decode cX4_passMinutes 18 = .ok (.aload_n 0, 1) := by decide +kernel
theorem dX4_passMinutes_19 : decode cX4_passMinutes 19 = .ok (.dup, 1) := by decide +kernel
theorem dX4_passMinutes_20 : decode cX4_passMinutes 20 = .ok (.getfield 52, 3) := by decide +kernel
theorem dX4_passMinutes_23 : decode cX4_passMinutes 23 = .ok (.iconst 1, 1) := by decide +kernel
theorem dX4_passMinutes_24 : decode cX4_passMinutes 24 = .ok (.iadd, 1) := by decide +kernel
theorem dX4_passMinutes_25 : decode cX4_passMinutes 25 = .ok (.putfield 52, 3) := by decide +kernel
theorem dX4_passMinutes_28 : decode cX4_passMinutes 28 = .ok (.aload_n 0, 1) := by decide +kernel
theorem dX4_passMinutes_29 : decode cX4_passMinutes 29 = .ok (.invokevirtual 155, 3) := by decide +kernel
theorem dX4_passMinutes_32 : decode cX4_passMinutes 32 = .ok (.iload_n 2, 1) := by decide +kernel
theorem dX4_passMinutes_33 : decode cX4_passMinutes 33 = .ok (.aload_n 0, 1) := by decide +kernel
theorem dX4_passMinutes_34 : decode cX4_passMinutes 34 = .ok (.invokevirtual 158, 3) := by decide +kernel
theorem dX4_passMinutes_37 : decode cX4_passMinutes 37 = .ok (.iadd, 1) := by decide +kernel
theorem dX4_passMinutes_38 : decode cX4_passMinutes 38 = .ok (.istore_n 2, 1) := by decide +kernel
theorem dX4_passMinutes_39 : decode cX4_passMinutes 39 = .ok (.iinc 3 1, 3) := by decide +kernel
theorem dX4_passMinutes_42 : decode cX4_passMinutes 42 = .ok (.goto (-29), 3) := by decide +kernel
theorem dX4_passMinutes_45 : decode cX4_passMinutes 45 = .ok (.iload_n 2, 1) := by decide +kernel
theorem dX4_passMinutes_46 : decode cX4_passMinutes 46 = .ok (.ireturn, 1) := by decide +kernel
set_option maxRecDepth 20000 in
theorem ggX4_letParkedCarsLeave_X4_isParked : GoodIn wsX4_letParkedCarsLeave wsX4_isParked := goodIn_r _ [7, 8, 9, 10, 11, 6, 12, 1, 13, 14, 15, 39, 40, 41, 42, 43, 44, 45, 46, 47, 48, 49, 50, 51, 52] rfl (by decide +kernel)
set_option maxRecDepth 20000 in
theorem gX4_letParkedCarsLeave_X4_isParked : GoodIn wsX4_letParkedCarsLeave (wsV RX4 136 RX4 yX4_isParked wsX4_isParked) := goodIn_app (goodIn_r _ [3, 4, 5, 6] rfl (by decide +kernel)) ggX4_letParkedCarsLeave_X4_isParked
set_option maxRecDepth 20000 in
theorem ggX4_letParkedCarsLeave_X6_get : GoodIn wsX4_letParkedCarsLeave wsX6_get := goodIn_r _ [15] rfl (by decide +kernel)
set_option maxRecDepth 20000 in
theorem gX4_letParkedCarsLeave_X6_get_n84 : GoodIn wsX4_letParkedCarsLeave (wsX6_get) := ggX4_letParkedCarsLeave_X6_get
set_option maxRecDepth 20000 in
theorem ggX4_letParkedCarsLeave_X6_put : GoodIn wsX4_letParkedCarsLeave wsX6_put := goodIn_r _ [17] rfl (by decide +kernel)
set_option maxRecDepth 20000 in
theorem gX4_letParkedCarsLeave_X6_put_n88 : GoodIn wsX4_letParkedCarsLeave (wsX6_put) := ggX4_letParkedCarsLeave_X6_put
set_option maxRecDepth 20000 in
theorem ggX4_letParkedCarsLeave_X4_minutesLeft : GoodIn wsX4_letParkedCarsLeave wsX4_minutesLeft := goodIn_r _ [21, 22, 2, 13, 14, 15, 39, 40, 41, 42, 43, 44, 45, 46, 47, 48, 49, 50, 51, 52] rfl (by decide +kernel)
set_option maxRecDepth 20000 in
theorem gX4_letParkedCarsLeave_X4_minutesLeft : GoodIn wsX4_letParkedCarsLeave (wsV RX4 161 RX4 yX4_minutesLeft wsX4_minutesLeft) := goodIn_app (goodIn_r _ [18, 19, 20, 6] rfl (by decide +kernel)) ggX4_letParkedCarsLeave_X4_minutesLeft
set_option maxRecDepth 20000 in
theorem ggX4_letParkedCarsLeave_X4_depart : GoodIn wsX4_letParkedCarsLeave wsX4_depart := goodIn_r _ [26, 27, 28, 8, 3, 4, 5, 6, 7, 9, 10, 11, 12, 1, 13, 14, 15, 29, 30, 31, 32, 33, 16, 17, 34, 35, 36, 37, 38, 39, 40, 41, 42, 43, 44, 45, 46, 47, 48, 49, 50, 51, 52] rfl (by decide +kernel)
set_option maxRecDepth 20000 in
theorem gX4_letParkedCarsLeave_X4_depart : GoodIn wsX4_letParkedCarsLeave (wsV RX4 164 RX4 yX4_depart wsX4_depart) := goodIn_app (goodIn_r _ [23, 24, 25, 6] rfl (by decide +kernel)) ggX4_letParkedCarsLeave_X4_depart
theorem dX4_letParkedCarsLeave_0 : decode cX4_letParkedCarsLeave 0 = .ok (.iconst 0, 1) := by decide +kernel
theorem dX4_letParkedCarsLeave_1 : decode cX4_letParkedCarsLeave 1 = .ok (.istore_n 1, 1) := by decide +kernel
theorem dX4_letParkedCarsLeave_2 : decode cX4_letParkedCarsLeave 2 = .ok (.iload_n 1, 1) := by decide +kernel
theorem dX4_letParkedCarsLeave_3 : decode cX4_letParkedCarsLeave 3 = .ok (.aload_n 0, 1) := by decide +kernel
theorem dX4_letParkedCarsLeave_4 : decode cX4_letParkedCarsLeave 4 = .ok (.getfield 48, 3) := by decide +kernel
theorem dX4_letParkedCarsLeave_7 : decode cX4_letParkedCarsLeave 7 = .ok (.if_icmp .ge 50, 3) := by decide +kernel
theorem dX4_letParkedCarsLeave_10 : decode cX4_letParkedCarsLeave 10 = .ok (.aload_n 0, 1) := by decide +kernel
theorem dX4_letParkedCarsLeave_11 : decode cX4_letParkedCarsLeave 11 = .ok (.iload_n 1, 1) := by decide +kernel
theorem dX4_letParkedCarsLeave_12 : decode cX4_letParkedCarsLeave 12 = .ok (.invokevirtual 136, 3) := by decide +kernel
theorem dX4_letParkedCarsLeave_15 : decode cX4_letParkedCarsLeave 15 = .ok (.ifCond .eq 36, 3) := by decide +kernel
theorem dX4_letParkedCarsLeave_18 : decode cX4_letParkedCarsLeave 18 = .ok (.aload_n 0, 1) := by decide +kernel
theorem dX4_letParkedCarsLeave_19 : decode cX4_letParkedCarsLeave 19 = .ok (.getfield 30, 3) := by decide +kernel
theorem dX4_letParkedCarsLeave_22 : decode cX4_letParkedCarsLeave 22 = .ok (.iload_n 1, 1) := by decide +kernel
theorem dX4_letParkedCarsLeave_23 : decode cX4_letParkedCarsLeave 23 = .ok (.aload_n 0, 1) := by decide +kernel
theorem dX4_letParkedCarsLeave_24 : decode cX4_letParkedCarsLeave 24 = .ok (.getfield 30, 3) := by decide +kernel
theorem dX4_letParkedCarsLeave_27 : decode cX4_letParkedCarsLeave 27 = .ok (.iload_n 1, 1) := by decide +kernel
theorem dX4_letParkedCarsLeave_28 : decode cX4_letParkedCarsLeave 28 = .ok (.invokestatic 84, 3) := by decide +kernel
theorem dX4_letParkedCarsLeave_31 : decode cX4_letParkedCarsLeave 31 = .ok (.iconst 1, 1) := by decide +kernel
theorem dX4_letParkedCarsLeave_32 : decode cX4_letParkedCarsLeave 32 = .ok (.iadd, 1) := by decide +kernel
theorem dX4_letParkedCarsLeave_33 : decode cX4_letParkedCarsLeave 33 = .ok (.invokestatic 88, 3) := by decide +kernel
theorem dX4_letParkedCarsLeave_36 : decode cX4_letParkedCarsLeave 36 = .ok (.aload_n 0, 1) := by decide +kernel
theorem dX4_letParkedCarsLeave_37 : decode cX4_letParkedCarsLeave 37 = .ok (.iload_n 1, 1) := by decide +kernel
theorem dX4_letParkedCarsLeave_38 : decode cX4_letParkedCarsLeave 38 = .ok (.invokevirtual 161, 3) := by decide +kernel
theorem dX4_letParkedCarsLeave_41 : decode cX4_letParkedCarsLeave 41 = .ok (.ifCond .gt 10, 3) := by decide +kernel
theorem dX4_letParkedCarsLeave_44 : decode cX4_letParkedCarsLeave 44 = .ok (.aload_n 0, 1) := by decide +kernel
theorem dX4_letParkedCarsLeave_45 : decode cX4_letParkedCarsLeave 45 = .ok (.iload_n 1, 1) := by decide +kernel
theorem dX4_letParkedCarsLeave_46 : decode cX4_letParkedCarsLeave 46 = .ok (.iconst 2, 1) := by decide +kernel
theorem dX4_letParkedCarsLeave_47 : decode cX4_letParkedCarsLeave 47 = .ok (.invokevirtual 164, 3) := by decide +kernel
theorem dX4_letParkedCarsLeave_50 : decode cX4_letParkedCarsLeave 50 = .ok (.pop, 1) := by decide +kernel
theorem dX4_letParkedCarsLeave_51 : decode cX4_letParkedCarsLeave 51 = .ok (.iinc 1 1, 3) := by decide +kernel
theorem dX4_letParkedCarsLeave_54 : decode cX4_letParkedCarsLeave 54 = .ok (.goto (-52), 3) := by decide +kernel
theorem dX4_letParkedCarsLeave_57 : decode cX4_letParkedCarsLeave 57 = .ok (.return_, 1) := by decide +kernel
set_option maxRecDepth 20000 in
theorem ggX4_letCarsGoRound_X6_get : GoodIn wsX4_letCarsGoRound wsX6_get := goodIn_r _ [5] rfl (by decide +kernel)
set_option maxRecDepth 20000 in
theorem gX4_letCarsGoRound_X6_get_n84 : GoodIn wsX4_letCarsGoRound (wsX6_get) := ggX4_letCarsGoRound_X6_get
set_option maxRecDepth 20000 in
theorem ggX4_letCarsGoRound_X4_tryToPark : GoodIn wsX4_letCarsGoRound wsX4_tryToPark := goodIn_r _ [10, 11, 12, 2, 3, 4, 5, 13, 14, 15, 9, 16, 17, 18, 19, 20, 21, 22, 23, 24, 25, 26, 27, 28, 29, 30, 31, 32, 33, 34, 35, 36, 37, 38, 39, 40, 41, 42, 43, 44, 45, 46, 47, 48, 49, 50, 51, 58, 59, 60, 61, 62, 63, 64, 65, 66, 67, 68, 69, 70, 71] rfl (by decide +kernel)
set_option maxRecDepth 20000 in
theorem gX4_letCarsGoRound_X4_tryToPark : GoodIn wsX4_letCarsGoRound (wsV RX4 123 RX4 yX4_tryToPark wsX4_tryToPark) := goodIn_app (goodIn_r _ [6, 7, 8, 9] rfl (by decide +kernel)) ggX4_letCarsGoRound_X4_tryToPark
set_option maxRecDepth 20000 in
theorem ggX4_letCarsGoRound_X4_goRoundOnce : GoodIn wsX4_letCarsGoRound wsX4_goRoundOnce := goodIn_r _ [55, 56, 57, 2, 3, 4, 5, 46, 47, 58, 59, 60, 61, 62, 63, 64, 65, 66, 67, 68, 69, 70, 71] rfl (by decide +kernel)
set_option maxRecDepth 20000 in
theorem gX4_letCarsGoRound_X4_goRoundOnce : GoodIn wsX4_letCarsGoRound (wsV RX4 168 RX4 yX4_goRoundOnce wsX4_goRoundOnce) := goodIn_app (goodIn_r _ [52, 53, 54, 9] rfl (by decide +kernel)) ggX4_letCarsGoRound_X4_goRoundOnce
theorem dX4_letCarsGoRound_0 : decode cX4_letCarsGoRound 0 = .ok (.iconst 0, 1) := by decide +kernel
theorem dX4_letCarsGoRound_1 : decode cX4_letCarsGoRound 1 = .ok (.istore_n 1, 1) := by decide +kernel
theorem dX4_letCarsGoRound_2 : decode cX4_letCarsGoRound 2 = .ok (.iconst 0, 1) := by decide +kernel
theorem dX4_letCarsGoRound_3 : decode cX4_letCarsGoRound 3 = .ok (.istore_n 2, 1) := by decide +kernel
theorem dX4_letCarsGoRound_4 : decode cX4_letCarsGoRound 4 = .ok (.iload_n 2, 1) := by decide +kernel
theorem dX4_letCarsGoRound_5 : decode cX4_letCarsGoRound 5 = .ok (.aload_n 0, 1) := by decide +kernel
theorem dX4_letCarsGoRound_6 : decode cX4_letCarsGoRound 6 = .ok (.getfield 48, 3) := by decide +kernel
theorem dX4_letCarsGoRound_9 : decode cX4_letCarsGoRound 9 = .ok (.if_icmp .ge 40, 3) := by decide +kernel
theorem dX4_letCarsGoRound_12 : decode cX4_letCarsGoRound 12 = .ok (.aload_n 0, 1) := by decide +kernel
theorem dX4_letCarsGoRound_13 : decode cX4_letCarsGoRound 13 = .ok (.getfield 24, 3) := by decide +kernel
theorem dX4_letCarsGoRound_16 : decode cX4_letCarsGoRound 16 = .ok (.iload_n 2, 1) := by decide +kernel
theorem dX4_letCarsGoRound_17 : decode cX4_letCarsGoRound 17 = .ok (.invokestatic 84, 3) := by decide +kernel
theorem dX4_letCarsGoRound_20 : decode cX4_letCarsGoRound 20 = .ok (.iconst 1, 1) := by decide +kernel
theorem dX4_letCarsGoRound_21 : decode cX4_letCarsGoRound 21 = .ok (.if_icmp .ne 22, 3) := by decide +kernel
theorem dX4_letCarsGoRound_24 : decode cX4_letCarsGoRound 24 = .ok (.aload_n 0, 1) := by decide +kernel
theorem dX4_letCarsGoRound_25 : decode cX4_letCarsGoRound 25 = .ok (.iload_n 2, 1) := by decide +kernel
theorem dX4_letCarsGoRound_26 : decode cX4_letCarsGoRound 26 = .ok (.invokevirtual 123, 3) := by decide +kernel
theorem dX4_letCarsGoRound_29 : decode cX4_letCarsGoRound 29 = .ok (.ifCond .eq 9, 3) := by decide +kernel
theorem dX4_letCarsGoRound_32 : decode cX4_letCarsGoRound 32 = .ok (.iinc 1 1, 3) := by decide +kernel
theorem dX4_letCarsGoRound_35 : decode cX4_letCarsGoRound 35 = .ok (.goto 8, 3) := by decide +kernel
theorem dX4_letCarsGoRound_38 : decode cX4_letCarsGoRound 38 = .ok (.aload_n 0, 1) := by decide +kernel
theorem dX4_letCarsGoRound_39 : decode cX4_letCarsGoRound 39 = .ok (.iload_n 2, 1) := by decide +kernel
theorem dX4_letCarsGoRound_40 : decode cX4_letCarsGoRound 40 = .ok (.invokevirtual 168, 3) := by decide +kernel
theorem dX4_letCarsGoRound_43 : decode cX4_letCarsGoRound 43 = .ok (.iinc 2 1, 3) := by decide +kernel
theorem dX4_letCarsGoRound_46 : decode cX4_letCarsGoRound 46 = .ok (.goto (-42), 3) := by decide +kernel
theorem dX4_letCarsGoRound_49 : decode cX4_letCarsGoRound 49 = .ok (.iload_n 1, 1) := by decide +kernel
theorem dX4_letCarsGoRound_50 : decode cX4_letCarsGoRound 50 = .ok (.ireturn, 1) := by decide +kernel
set_option maxRecDepth 20000 in
theorem ggX4_goRoundOnce_X6_get : GoodIn wsX4_goRoundOnce wsX6_get := goodIn_r _ [6] rfl (by decide +kernel)
set_option maxRecDepth 20000 in
theorem gX4_goRoundOnce_X6_get_n84 : GoodIn wsX4_goRoundOnce (wsX6_get) := ggX4_goRoundOnce_X6_get
set_option maxRecDepth 20000 in
theorem ggX4_goRoundOnce_X6_put : GoodIn wsX4_goRoundOnce wsX6_put := goodIn_r _ [8] rfl (by decide +kernel)
set_option maxRecDepth 20000 in
theorem gX4_goRoundOnce_X6_put_n88 : GoodIn wsX4_goRoundOnce (wsX6_put) := ggX4_goRoundOnce_X6_put
theorem dX4_goRoundOnce_0 : decode cX4_goRoundOnce 0 = .ok (.aload_n 0, 1) := by decide +kernel
theorem dX4_goRoundOnce_1 : decode cX4_goRoundOnce 1 = .ok (.getfield 33, 3) := by decide +kernel
theorem dX4_goRoundOnce_4 : decode cX4_goRoundOnce 4 = .ok (.iload_n 1, 1) := by decide +kernel
theorem dX4_goRoundOnce_5 : decode cX4_goRoundOnce 5 = .ok (.invokestatic 84, 3) := by decide +kernel
theorem dX4_goRoundOnce_8 : decode cX4_goRoundOnce 8 = .ok (.iconst 1, 1) := by decide +kernel
theorem dX4_goRoundOnce_9 : decode cX4_goRoundOnce 9 = .ok (.iadd, 1) := by decide +kernel
theorem dX4_goRoundOnce_10 : decode cX4_goRoundOnce 10 = .ok (.istore_n 2, 1) := by decide +kernel
theorem dX4_goRoundOnce_11 : decode cX4_goRoundOnce 11 = .ok (.aload_n 0, 1) := by decide +kernel
theorem dX4_goRoundOnce_12 : decode cX4_goRoundOnce 12 = .ok (.getfield 33, 3) := by decide +kernel
theorem dX4_goRoundOnce_15 : decode cX4_goRoundOnce 15 = .ok (.iload_n 1, 1) := by decide +kernel
theorem dX4_goRoundOnce_16 : decode cX4_goRoundOnce 16 = .ok (.iload_n 2, 1) := by decide +kernel
theorem dX4_goRoundOnce_17 : decode cX4_goRoundOnce 17 = .ok (.invokestatic 88, 3) := by decide +kernel
theorem dX4_goRoundOnce_20 : decode cX4_goRoundOnce 20 = .ok (.iload_n 2, 1) := by decide +kernel
theorem dX4_goRoundOnce_21 : decode cX4_goRoundOnce 21 = .ok (.aload_n 0, 1) := by decide +kernel
theorem dX4_goRoundOnce_22 : decode cX4_goRoundOnce 22 = .ok (.getfield 65, 3) := by decide +kernel
theorem dX4_goRoundOnce_25 : decode cX4_goRoundOnce 25 = .ok (.if_icmp .lt 12, 3) := by decide +kernel
theorem dX4_goRoundOnce_28 : decode cX4_goRoundOnce 28 = .ok (.aload_n 0, 1) := by decide +kernel
theorem dX4_goRoundOnce_29 : decode cX4_goRoundOnce 29 = .ok (.getfield 24, 3) := by decide +kernel
theorem dX4_goRoundOnce_32 : decode cX4_goRoundOnce 32 = .ok (.iload_n 1, 1) := by decide +kernel
theorem dX4_goRoundOnce_33 : decode cX4_goRoundOnce 33 = .ok (.iconst 3, 1) := by decide +kernel
theorem dX4_goRoundOnce_34 : decode cX4_goRoundOnce 34 = .ok (.invokestatic 88, 3) := by decide +kernel
theorem dX4_goRoundOnce_37 : decode cX4_goRoundOnce 37 = .ok (.return_, 1) := by decide +kernel
theorem dX4_fittingByGaps_0 : decode cX4_fittingByGaps 0 = .ok (.iconst 0, 1) := by decide +kernel
theorem dX4_fittingByGaps_1 : decode cX4_fittingByGaps 1 = .ok (.istore_n 2, 1) := by decide +kernel
theorem dX4_fittingByGaps_2 : decode cX4_fittingByGaps 2 = .ok (.iconst 0, 1) := by decide +kernel
theorem dX4_fittingByGaps_3 : decode cX4_fittingByGaps 3 = .ok (.istore_n 3, 1) := by decide +kernel
theorem dX4_fittingByGaps_4 : decode cX4_fittingByGaps 4 = .ok (.iload_n 3, 1) := by decide +kernel
theorem dX4_fittingByGaps_5 : decode cX4_fittingByGaps 5 = .ok (.aload_n 0, 1) := by decide +kernel
theorem dX4_fittingByGaps_6 : decode cX4_fittingByGaps 6 = .ok (.getfield 15, 3) := by decide +kernel
theorem dX4_fittingByGaps_9 : decode cX4_fittingByGaps 9 = .ok (.arraylength, 1) := by decide +kernel
theorem dX4_fittingByGaps_10 : decode cX4_fittingByGaps 10 = .ok (.if_icmp .ge 44, 3) := by decide +kernel
theorem dX4_fittingByGaps_13 : decode cX4_fittingByGaps 13 = .ok (.iload_n 1, 1) := by decide +kernel
theorem dX4_fittingByGaps_14 : decode cX4_fittingByGaps 14 = .ok (.ifCond .le 34, 3) := by decide +kernel
theorem dX4_fittingByGaps_17 : decode cX4_fittingByGaps 17 = .ok (.aload_n 0, 1) := by decide +kernel
theorem dX4_fittingByGaps_18 : decode cX4_fittingByGaps 18 = .ok (.getfield 15, 3) := by decide +kernel
theorem dX4_fittingByGaps_21 : decode cX4_fittingByGaps 21 = .ok (.iload_n 3, 1) := by decide +kernel
theorem dX4_fittingByGaps_22 : decode cX4_fittingByGaps 22 = .ok (.iaload, 1) := by decide +kernel
theorem dX4_fittingByGaps_23 : decode cX4_fittingByGaps 23 = .ok (.iload_n 1, 1) := by decide +kernel
theorem dX4_fittingByGaps_24 : decode cX4_fittingByGaps 24 = .ok (.aload_n 0, 1) := by decide +kernel
theorem dX4_fittingByGaps_25 : decode cX4_fittingByGaps 25 = .ok (.getfield 62, 3) := by decide +kernel
theorem dX4_fittingByGaps_28 : decode cX4_fittingByGaps 28 = .ok (.iadd, 1) := by decide +kernel
theorem dX4_fittingByGaps_29 : decode cX4_fittingByGaps 29 = .ok (.if_icmp .lt 19, 3) := by decide +kernel
theorem dX4_fittingByGaps_32 : decode cX4_fittingByGaps 32 = .ok (.iload_n 2, 1) := by decide +kernel
theorem dX4_fittingByGaps_33 : decode cX4_fittingByGaps 33 = .ok (.aload_n 0, 1) := by decide +kernel
theorem dX4_fittingByGaps_34 : decode cX4_fittingByGaps 34 = .ok (.getfield 15, 3) := by decide +kernel
theorem dX4_fittingByGaps_37 : decode cX4_fittingByGaps 37 = .ok (.iload_n 3, 1) := by decide +kernel
theorem dX4_fittingByGaps_38 : decode cX4_fittingByGaps 38 = .ok (.iaload, 1) := by decide +kernel
theorem dX4_fittingByGaps_39 : decode cX4_fittingByGaps 39 = .ok (.aload_n 0, 1) := by decide +kernel
theorem dX4_fittingByGaps_40 : decode cX4_fittingByGaps 40 = .ok (.getfield 62, 3) := by decide +kernel
theorem dX4_fittingByGaps_43 : decode cX4_fittingByGaps 43 = .ok (.isub, 1) := by decide +kernel
theorem dX4_fittingByGaps_44 : decode cX4_fittingByGaps 44 = .ok (.iload_n 1, 1) := by decide +kernel
theorem dX4_fittingByGaps_45 : decode cX4_fittingByGaps 45 = .ok (.idiv, 1) := by decide +kernel
theorem dX4_fittingByGaps_46 : decode cX4_fittingByGaps 46 = .ok (.iadd, 1) := by decide +kernel
theorem dX4_fittingByGaps_47 : decode cX4_fittingByGaps 47 = .ok (.istore_n 2, 1) := by decide +kernel
theorem dX4_fittingByGaps_48 : decode cX4_fittingByGaps 48 = .ok (.iinc 3 1, 3) := by decide +kernel
theorem dX4_fittingByGaps_51 : decode cX4_fittingByGaps 51 = .ok (.goto (-47), 3) := by decide +kernel
theorem dX4_fittingByGaps_54 : decode cX4_fittingByGaps 54 = .ok (.iload_n 2, 1) := by decide +kernel
theorem dX4_fittingByGaps_55 : decode cX4_fittingByGaps 55 = .ok (.ireturn, 1) := by decide +kernel
set_option maxRecDepth 20000 in
theorem ggX4_fillWith_X4_chosenPlace : GoodIn wsX4_fillWith wsX4_chosenPlace := goodIn_r _ [5, 6, 7, 8, 9, 10, 11, 12, 13, 14, 15, 4, 16, 17, 18, 19, 20, 21, 22, 23, 24, 25, 26, 42, 43, 44, 45, 46, 47, 48, 49, 50, 51, 52, 53, 54, 55] rfl (by decide +kernel)
set_option maxRecDepth 20000 in
theorem gX4_fillWith_X4_chosenPlace : GoodIn wsX4_fillWith (wsV RX4 126 RX4 yX4_chosenPlace wsX4_chosenPlace) := goodIn_app (goodIn_r _ [1, 2, 3, 4] rfl (by decide +kernel)) ggX4_fillWith_X4_chosenPlace
set_option maxRecDepth 20000 in
theorem ggX4_fillWith_X4_useChance : GoodIn wsX4_fillWith wsX4_useChance := goodIn_r _ [30, 6, 7, 8, 9, 10, 11, 12, 42, 43, 44, 45, 46, 47, 48, 49, 50, 51, 52, 53, 54, 55] rfl (by decide +kernel)
set_option maxRecDepth 20000 in
theorem gX4_fillWith_X4_useChance : GoodIn wsX4_fillWith (wsV RX4 129 RX4 yX4_useChance wsX4_useChance) := goodIn_app (goodIn_r _ [27, 28, 29, 4] rfl (by decide +kernel)) ggX4_fillWith_X4_useChance
set_option maxRecDepth 20000 in
theorem ggX4_fillWith_X4_occupy : GoodIn wsX4_fillWith wsX4_occupy := goodIn_r _ [34, 35, 36, 9, 37, 38, 39, 40, 4, 41, 17, 42, 43, 44, 45, 46, 47, 48, 49, 50, 51, 52, 53, 54, 55] rfl (by decide +kernel)
set_option maxRecDepth 20000 in
theorem gX4_fillWith_X4_occupy : GoodIn wsX4_fillWith (wsV RX4 132 RX4 yX4_occupy wsX4_occupy) := goodIn_app (goodIn_r _ [31, 32, 33, 4] rfl (by decide +kernel)) ggX4_fillWith_X4_occupy
theorem dX4_fillWith_0 : decode cX4_fillWith 0 = .ok (.iconst 0, 1) := by decide +kernel
theorem dX4_fillWith_1 : decode cX4_fillWith 1 = .ok (.istore_n 2, 1) := by decide +kernel
theorem dX4_fillWith_2 : decode cX4_fillWith 2 = .ok (.aload_n 0, 1) := by decide +kernel
theorem dX4_fillWith_3 : decode cX4_fillWith 3 = .ok (.iload_n 1, 1) := by decide +kernel
theorem dX4_fillWith_4 : decode cX4_fillWith 4 = .ok (.invokevirtual 126, 3) := by decide +kernel
theorem dX4_fillWith_7 : decode cX4_fillWith 7 = .ok (.istore_n 3, 1) := by decide +kernel
theorem dX4_fillWith_8 : decode cX4_fillWith 8 = .ok (.iload_n 3, 1) := by decide +kernel
theorem dX4_fillWith_9 : decode cX4_fillWith 9 = .ok (.iconst (-1), 1) := by decide +kernel
theorem dX4_fillWith_10 : decode cX4_fillWith 10 = .ok (.if_icmp .eq 33, 3) := by decide +kernel
theorem dX4_fillWith_13 : decode cX4_fillWith 13 = .ok (.iload_n 2, 1) := by decide +kernel
theorem dX4_fillWith_14 : decode cX4_fillWith 14 = .ok (.bipush 80, 2) := by decide +kernel
theorem dX4_fillWith_16 : decode cX4_fillWith 16 = .ok (.if_icmp .ge 27, 3) := by decide +kernel
theorem dX4_fillWith_19 : decode cX4_fillWith 19 = .ok (.aload_n 0, 1) := by decide +kernel
theorem dX4_fillWith_20 : decode cX4_fillWith 20 = .ok (.invokevirtual 129, 3) := by decide +kernel
theorem dX4_fillWith_23 : decode cX4_fillWith 23 = .ok (.aload_n 0, 1) := by decide +kernel
theorem dX4_fillWith_24 : decode cX4_fillWith 24 = .ok (.iload_n 3, 1) := by decide +kernel
theorem dX4_fillWith_25 : decode cX4_fillWith 25 = .ok (.iload_n 1, 1) := by decide +kernel
theorem dX4_fillWith_26 : decode cX4_fillWith 26 = .ok (.bipush 100, 2) := by decide +kernel
theorem dX4_fillWith_28 : decode cX4_fillWith 28 = .ok (.invokevirtual 132, 3) := by decide +kernel
theorem dX4_fillWith_31 : decode cX4_fillWith 31 = .ok (.iinc 2 1, 3) := by decide +kernel
theorem dX4_fillWith_34 : decode cX4_fillWith 34 = .ok (.aload_n 0, 1) := by decide +kernel
theorem dX4_fillWith_35 : decode cX4_fillWith 35 = .ok (.iload_n 1, 1) := by decide +kernel
theorem dX4_fillWith_36 : decode cX4_fillWith 36 = .ok (.invokevirtual 126, 3) := by decide +kernel
theorem dX4_fillWith_39 : decode cX4_fillWith 39 = .ok (.istore_n 3, 1) := by decide +kernel
theorem dX4_fillWith_40 : decode cX4_fillWith 40 = .ok (.goto (-32), 3) := by decide +kernel
theorem dX4_fillWith_43 : decode cX4_fillWith 43 = .ok (.iload_n 2, 1) := by decide +kernel
theorem dX4_fillWith_44 : decode cX4_fillWith 44 = .ok (.ireturn, 1) := by decide +kernel
set_option maxRecDepth 20000 in
theorem ggX4_freeBelow_X6_get : GoodIn wsX4_freeBelow wsX6_get := goodIn_r _ [4] rfl (by decide +kernel)
set_option maxRecDepth 20000 in
theorem gX4_freeBelow_X6_get_n84 : GoodIn wsX4_freeBelow (wsX6_get) := ggX4_freeBelow_X6_get
set_option maxRecDepth 20000 in
theorem ggX4_freeBelow_X4_isFree : GoodIn wsX4_freeBelow wsX4_isFree := goodIn_r _ [9, 10, 11, 3, 12, 2, 4, 13, 14, 15, 16, 17, 18, 19, 20, 21, 22, 23, 24, 25, 26] rfl (by decide +kernel)
set_option maxRecDepth 20000 in
theorem gX4_freeBelow_X4_isFree : GoodIn wsX4_freeBelow (wsV RX4 139 RX4 yX4_isFree wsX4_isFree) := goodIn_app (goodIn_r _ [5, 6, 7, 8] rfl (by decide +kernel)) ggX4_freeBelow_X4_isFree
theorem dX4_freeBelow_0 : decode cX4_freeBelow 0 = .ok (.iconst 0, 1) := by decide +kernel
theorem dX4_freeBelow_1 : decode cX4_freeBelow 1 = .ok (.istore_n 2, 1) := by decide +kernel
theorem dX4_freeBelow_2 : decode cX4_freeBelow 2 = .ok (.aload_n 0, 1) := by decide +kernel
theorem dX4_freeBelow_3 : decode cX4_freeBelow 3 = .ok (.getfield 27, 3) := by decide +kernel
theorem dX4_freeBelow_6 : decode cX4_freeBelow 6 = .ok (.iload_n 1, 1) := by decide +kernel
theorem dX4_freeBelow_7 : decode cX4_freeBelow 7 = .ok (.invokestatic 84, 3) := by decide +kernel
theorem dX4_freeBelow_10 : decode cX4_freeBelow 10 = .ok (.iconst 1, 1) := by decide +kernel
theorem dX4_freeBelow_11 : decode cX4_freeBelow 11 = .ok (.isub, 1) := by decide +kernel
theorem dX4_freeBelow_12 : decode cX4_freeBelow 12 = .ok (.istore_n 3, 1) := by decide +kernel
theorem dX4_freeBelow_13 : decode cX4_freeBelow 13 = .ok (.iload_n 3, 1) := by decide +kernel
theorem dX4_freeBelow_14 : decode cX4_freeBelow 14 = .ok (.ifCond .lt 20, 3) := by decide +kernel
theorem dX4_freeBelow_17 : decode cX4_freeBelow 17 = .ok (.aload_n 0, 1) := by decide +kernel
theorem dX4_freeBelow_18 : decode cX4_freeBelow 18 = .ok (.iload_n 3, 1) := by decide +kernel
theorem dX4_freeBelow_19 : decode cX4_freeBelow 19 = .ok (.invokevirtual 139, 3) := by decide +kernel
theorem dX4_freeBelow_22 : decode cX4_freeBelow 22 = .ok (.ifCond .eq 12, 3) := by decide +kernel
theorem dX4_freeBelow_25 : decode cX4_freeBelow 25 = .ok (.iinc 2 1, 3) := by decide +kernel
theorem dX4_freeBelow_28 : decode cX4_freeBelow 28 = .ok (.iinc 3 (-1), 3) := by decide +kernel
theorem dX4_freeBelow_31 : decode cX4_freeBelow 31 = .ok (.goto (-18), 3) := by decide +kernel
theorem dX4_freeBelow_34 : decode cX4_freeBelow 34 = .ok (.iload_n 2, 1) := by decide +kernel
theorem dX4_freeBelow_35 : decode cX4_freeBelow 35 = .ok (.ireturn, 1) := by decide +kernel
set_option maxRecDepth 20000 in
theorem ggX4_freeAbove_X6_get : GoodIn wsX4_freeAbove wsX6_get := goodIn_r _ [5] rfl (by decide +kernel)
set_option maxRecDepth 20000 in
theorem gX4_freeAbove_X6_get_n84 : GoodIn wsX4_freeAbove (wsX6_get) := ggX4_freeAbove_X6_get
set_option maxRecDepth 20000 in
theorem ggX4_freeAbove_X4_isFree : GoodIn wsX4_freeAbove wsX4_isFree := goodIn_r _ [10, 11, 12, 4, 13, 3, 5, 14, 15, 16, 17, 18, 19, 20, 21, 22, 23, 24, 25, 26, 27] rfl (by decide +kernel)
set_option maxRecDepth 20000 in
theorem gX4_freeAbove_X4_isFree : GoodIn wsX4_freeAbove (wsV RX4 139 RX4 yX4_isFree wsX4_isFree) := goodIn_app (goodIn_r _ [6, 7, 8, 9] rfl (by decide +kernel)) ggX4_freeAbove_X4_isFree
theorem dX4_freeAbove_0 : decode cX4_freeAbove 0 = .ok (.iconst 0, 1) := by decide +kernel
theorem dX4_freeAbove_1 : decode cX4_freeAbove 1 = .ok (.istore_n 2, 1) := by decide +kernel
theorem dX4_freeAbove_2 : decode cX4_freeAbove 2 = .ok (.aload_n 0, 1) := by decide +kernel
theorem dX4_freeAbove_3 : decode cX4_freeAbove 3 = .ok (.getfield 27, 3) := by decide +kernel
theorem dX4_freeAbove_6 : decode cX4_freeAbove 6 = .ok (.iload_n 1, 1) := by decide +kernel
theorem dX4_freeAbove_7 : decode cX4_freeAbove 7 = .ok (.invokestatic 84, 3) := by decide +kernel
theorem dX4_freeAbove_10 : decode cX4_freeAbove 10 = .ok (.aload_n 0, 1) := by decide +kernel
theorem dX4_freeAbove_11 : decode cX4_freeAbove 11 = .ok (.getfield 18, 3) := by decide +kernel
theorem dX4_freeAbove_14 : decode cX4_freeAbove 14 = .ok (.iload_n 1, 1) := by decide +kernel
theorem dX4_freeAbove_15 : decode cX4_freeAbove 15 = .ok (.invokestatic 84, 3) := by decide +kernel
theorem dX4_freeAbove_18 : decode cX4_freeAbove 18 = .ok (.iadd, 1) := by decide +kernel
theorem dX4_freeAbove_19 : decode cX4_freeAbove 19 = .ok (.istore_n 3, 1) := by decide +kernel
theorem dX4_freeAbove_20 : decode cX4_freeAbove 20 = .ok (.iload_n 3, 1) := by decide +kernel
theorem dX4_freeAbove_21 : decode cX4_freeAbove 21 = .ok (.bipush 80, 2) := by decide +kernel
theorem dX4_freeAbove_23 : decode cX4_freeAbove 23 = .ok (.if_icmp .ge 20, 3) := by decide +kernel
theorem dX4_freeAbove_26 : decode cX4_freeAbove 26 = .ok (.aload_n 0, 1) := by decide +kernel
theorem dX4_freeAbove_27 : decode cX4_freeAbove 27 = .ok (.iload_n 3, 1) := by decide +kernel
theorem dX4_freeAbove_28 : decode cX4_freeAbove 28 = .ok (.invokevirtual 139, 3) := by decide +kernel
theorem dX4_freeAbove_31 : decode cX4_freeAbove 31 = .ok (.ifCond .eq 12, 3) := by decide +kernel
theorem dX4_freeAbove_34 : decode cX4_freeAbove 34 = .ok (.iinc 2 1, 3) := by decide +kernel
theorem dX4_freeAbove_37 : decode cX4_freeAbove 37 = .ok (.iinc 3 1, 3) := by decide +kernel
theorem dX4_freeAbove_40 : decode cX4_freeAbove 40 = .ok (.goto (-20), 3) := by decide +kernel
theorem dX4_freeAbove_43 : decode cX4_freeAbove 43 = .ok (.iload_n 2, 1) := by decide +kernel
theorem dX4_freeAbove_44 : decode cX4_freeAbove 44 = .ok (.ireturn, 1) := by decide +kernel
set_option maxRecDepth 20000 in
theorem ggX4_carToShift_X4_reasonAgainst : GoodIn wsX4_carToShift wsX4_reasonAgainst := goodIn_r _ [7, 2, 8, 9, 10, 6, 11, 12, 42, 43, 44, 45, 46, 47, 48, 49, 50, 51, 52, 53, 54, 55] rfl (by decide +kernel)
set_option maxRecDepth 20000 in
theorem gX4_carToShift_X4_reasonAgainst : GoodIn wsX4_carToShift (wsV RX4 172 RX4 yX4_reasonAgainst wsX4_reasonAgainst) := goodIn_app (goodIn_r _ [3, 4, 5, 6] rfl (by decide +kernel)) ggX4_carToShift_X4_reasonAgainst
set_option maxRecDepth 20000 in
theorem ggX4_carToShift_X4_isParked : GoodIn wsX4_carToShift wsX4_isParked := goodIn_r _ [16, 17, 18, 19, 20, 6, 21, 1, 22, 23, 24, 42, 43, 44, 45, 46, 47, 48, 49, 50, 51, 52, 53, 54, 55] rfl (by decide +kernel)
set_option maxRecDepth 20000 in
theorem gX4_carToShift_X4_isParked : GoodIn wsX4_carToShift (wsV RX4 136 RX4 yX4_isParked wsX4_isParked) := goodIn_app (goodIn_r _ [13, 14, 15, 6] rfl (by decide +kernel)) ggX4_carToShift_X4_isParked
set_option maxRecDepth 20000 in
theorem ggX4_carToShift_X4_freeBelow : GoodIn wsX4_carToShift wsX4_freeBelow := goodIn_r _ [28, 29, 22, 23, 24, 30, 31, 32, 6, 33, 34, 35, 36, 42, 43, 44, 45, 46, 47, 48, 49, 50, 51, 52, 53, 54, 55] rfl (by decide +kernel)
set_option maxRecDepth 20000 in
theorem gX4_carToShift_X4_freeBelow : GoodIn wsX4_carToShift (wsV RX4 175 RX4 yX4_freeBelow wsX4_freeBelow) := goodIn_app (goodIn_r _ [25, 26, 27, 6] rfl (by decide +kernel)) ggX4_carToShift_X4_freeBelow
set_option maxRecDepth 20000 in
theorem ggX4_carToShift_X4_freeAbove : GoodIn wsX4_carToShift wsX4_freeAbove := goodIn_r _ [40, 29, 41, 22, 23, 24, 30, 31, 32, 6, 33, 34, 35, 36, 42, 43, 44, 45, 46, 47, 48, 49, 50, 51, 52, 53, 54, 55] rfl (by decide +kernel)
set_option maxRecDepth 20000 in
theorem gX4_carToShift_X4_freeAbove : GoodIn wsX4_carToShift (wsV RX4 178 RX4 yX4_freeAbove wsX4_freeAbove) := goodIn_app (goodIn_r _ [37, 38, 39, 6] rfl (by decide +kernel)) ggX4_carToShift_X4_freeAbove
theorem dX4_carToShift_0 : decode cX4_carToShift 0 = .ok (.aload_n 0, 1) := by decide +kernel
theorem dX4_carToShift_1 : decode cX4_carToShift 1 = .ok (.iload_n 1, 1) := by decide +kernel
theorem dX4_carToShift_2 : decode cX4_carToShift 2 = .ok (.invokevirtual 172, 3) := by decide +kernel
theorem dX4_carToShift_5 : decode cX4_carToShift 5 = .ok (.ifCond .ne 5, 3) := by decide +kernel
theorem dX4_carToShift_8 : decode cX4_carToShift 8 = .ok (.iconst (-1), 1) := by decide +kernel
theorem dX4_carToShift_9 : decode cX4_carToShift 9 = .ok (.ireturn, 1) := by decide +kernel
theorem dX4_carToShift_10 : decode cX4_carToShift 10 = .ok (.iconst 0, 1) := by decide +kernel
theorem dX4_carToShift_11 : decode cX4_carToShift 11 = .ok (.istore_n 2, 1) := by decide +kernel
theorem dX4_carToShift_12 : decode cX4_carToShift 12 = .ok (.iload_n 2, 1) := by decide +kernel
theorem dX4_carToShift_13 : decode cX4_carToShift 13 = .ok (.aload_n 0, 1) := by decide +kernel
theorem dX4_carToShift_14 : decode cX4_carToShift 14 = .ok (.getfield 48, 3) := by decide +kernel
theorem dX4_carToShift_17 : decode cX4_carToShift 17 = .ok (.if_icmp .ge 39, 3) := by decide +kernel
theorem dX4_carToShift_20 : decode cX4_carToShift 20 = .ok (.aload_n 0, 1) := by decide +kernel
theorem dX4_carToShift_21 : decode cX4_carToShift 21 = .ok (.iload_n 2, 1) := by decide +kernel
theorem dX4_carToShift_22 : decode cX4_carToShift 22 = .ok (.invokevirtual 136, 3) := by decide +kernel
theorem dX4_carToShift_25 : decode cX4_carToShift 25 = .ok (.ifCond .eq 25, 3) := by decide +kernel
theorem dX4_carToShift_28 : decode cX4_carToShift 28 = .ok (.aload_n 0, 1) := by decide +kernel
theorem dX4_carToShift_29 : decode cX4_carToShift 29 = .ok (.iload_n 2, 1) := by decide +kernel
theorem dX4_carToShift_30 : decode cX4_carToShift 30 = .ok (.invokevirtual 175, 3) := by decide +kernel
theorem dX4_carToShift_33 : decode cX4_carToShift 33 = .ok (.aload_n 0, 1) := by decide +kernel
theorem dX4_carToShift_34 : decode cX4_carToShift 34 = .ok (.iload_n 2, 1) := by decide +kernel
theorem dX4_carToShift_35 : decode cX4_carToShift 35 = .ok (.invokevirtual 178, 3) := by decide +kernel
theorem dX4_carToShift_38 : decode cX4_carToShift 38 = .ok (.iadd, 1) := by decide +kernel
theorem dX4_carToShift_39 : decode cX4_carToShift 39 = .ok (.iload_n 1, 1) := by decide +kernel
theorem dX4_carToShift_40 : decode cX4_carToShift 40 = .ok (.aload_n 0, 1) := by decide +kernel
theorem dX4_carToShift_41 : decode cX4_carToShift 41 = .ok (.getfield 62, 3) := by decide +kernel
theorem dX4_carToShift_44 : decode cX4_carToShift 44 = .ok (.iadd, 1) := by decide +kernel
theorem dX4_carToShift_45 : decode cX4_carToShift 45 = .ok (.if_icmp .lt 5, 3) := by decide +kernel
theorem dX4_carToShift_48 : decode cX4_carToShift 48 = .ok (.iload_n 2, 1) := by decide +kernel
theorem dX4_carToShift_49 : decode cX4_carToShift 49 = .ok (.ireturn, 1) := by decide +kernel
theorem dX4_carToShift_50 : decode cX4_carToShift 50 = .ok (.iinc 2 1, 3) := by decide +kernel
theorem dX4_carToShift_53 : decode cX4_carToShift 53 = .ok (.goto (-41), 3) := by decide +kernel
theorem dX4_carToShift_56 : decode cX4_carToShift 56 = .ok (.iconst (-1), 1) := by decide +kernel
theorem dX4_carToShift_57 : decode cX4_carToShift 57 = .ok (.ireturn, 1) := by decide +kernel
set_option maxRecDepth 20000 in
theorem ggX4_placeToShiftTo_X4_freeBelow : GoodIn wsX4_placeToShiftTo wsX4_freeBelow := goodIn_r _ [7, 1, 8, 9, 10, 11, 12, 13, 6, 14, 15, 16, 17, 23, 24, 25, 26, 27, 28, 29, 30, 31, 32, 33, 34, 35, 36] rfl (by decide +kernel)
set_option maxRecDepth 20000 in
theorem gX4_placeToShiftTo_X4_freeBelow : GoodIn wsX4_placeToShiftTo (wsV RX4 175 RX4 yX4_freeBelow wsX4_freeBelow) := goodIn_app (goodIn_r _ [3, 4, 5, 6] rfl (by decide +kernel)) ggX4_placeToShiftTo_X4_freeBelow
set_option maxRecDepth 20000 in
theorem ggX4_placeToShiftTo_X4_freeAbove : GoodIn wsX4_placeToShiftTo wsX4_freeAbove := goodIn_r _ [21, 1, 22, 8, 9, 10, 11, 12, 13, 6, 14, 15, 16, 17, 23, 24, 25, 26, 27, 28, 29, 30, 31, 32, 33, 34, 35, 36] rfl (by decide +kernel)
set_option maxRecDepth 20000 in
theorem gX4_placeToShiftTo_X4_freeAbove : GoodIn wsX4_placeToShiftTo (wsV RX4 178 RX4 yX4_freeAbove wsX4_freeAbove) := goodIn_app (goodIn_r _ [18, 19, 20, 6] rfl (by decide +kernel)) ggX4_placeToShiftTo_X4_freeAbove
set_option maxRecDepth 20000 in
theorem ggX4_placeToShiftTo_X6_get : GoodIn wsX4_placeToShiftTo wsX6_get := goodIn_r _ [10] rfl (by decide +kernel)
set_option maxRecDepth 20000 in
theorem gX4_placeToShiftTo_X6_get_n84 : GoodIn wsX4_placeToShiftTo (wsX6_get) := ggX4_placeToShiftTo_X6_get
theorem dX4_placeToShiftTo_0 : decode cX4_placeToShiftTo 0 = .ok (.aload_n 0, 1) := by decide +kernel
theorem dX4_placeToShiftTo_1 : decode cX4_placeToShiftTo 1 = .ok (.iload_n 1, 1) := by decide +kernel
theorem dX4_placeToShiftTo_2 : decode cX4_placeToShiftTo 2 = .ok (.invokevirtual 175, 3) := by decide +kernel
theorem dX4_placeToShiftTo_5 : decode cX4_placeToShiftTo 5 = .ok (.istore_n 3, 1) := by decide +kernel
theorem dX4_placeToShiftTo_6 : decode cX4_placeToShiftTo 6 = .ok (.aload_n 0, 1) := by decide +kernel
theorem dX4_placeToShiftTo_7 : decode cX4_placeToShiftTo 7 = .ok (.iload_n 1, 1) := by decide +kernel
theorem dX4_placeToShiftTo_8 : decode cX4_placeToShiftTo 8 = .ok (.invokevirtual 178, 3) := by decide +kernel
theorem dX4_placeToShiftTo_11 : decode cX4_placeToShiftTo 11 = .ok (.istore 4, 2) := by decide +kernel
theorem dX4_placeToShiftTo_13 : decode cX4_placeToShiftTo 13 = .ok (.aload_n 0, 1) := by decide +kernel
theorem dX4_placeToShiftTo_14 : decode cX4_placeToShiftTo 14 = .ok (.getfield 27, 3) := by decide +kernel
theorem dX4_placeToShiftTo_17 : decode cX4_placeToShiftTo 17 = .ok (.iload_n 1, 1) := by decide +kernel
theorem dX4_placeToShiftTo_18 : decode cX4_placeToShiftTo 18 = .ok (.invokestatic 84, 3) := by decide +kernel
theorem dX4_placeToShiftTo_21 : decode cX4_placeToShiftTo 21 = .ok (.istore 5, 2) := by decide +kernel
theorem dX4_placeToShiftTo_23 : decode cX4_placeToShiftTo 23 = .ok (.iload 4, 2) := by decide +kernel
theorem dX4_placeToShiftTo_25 : decode cX4_placeToShiftTo 25 = .ok (.iload_n 3, 1) := by decide +kernel
theorem dX4_placeToShiftTo_26 : decode cX4_placeToShiftTo 26 = .ok (.if_icmp .lt 18, 3) := by decide +kernel
theorem dX4_placeToShiftTo_29 : decode cX4_placeToShiftTo 29 = .ok (.iload 5, 2) := by decide +kernel
theorem dX4_placeToShiftTo_31 : decode cX4_placeToShiftTo 31 = .ok (.iload_n 2, 1) := by decide +kernel
theorem dX4_placeToShiftTo_32 : decode cX4_placeToShiftTo 32 = .ok (.aload_n 0, 1) := by decide +kernel
theorem dX4_placeToShiftTo_33 : decode cX4_placeToShiftTo 33 = .ok (.getfield 62, 3) := by decide +kernel
theorem dX4_placeToShiftTo_36 : decode cX4_placeToShiftTo 36 = .ok (.iadd, 1) := by decide +kernel
theorem dX4_placeToShiftTo_37 : decode cX4_placeToShiftTo 37 = .ok (.iload 4, 2) := by decide +kernel
theorem dX4_placeToShiftTo_39 : decode cX4_placeToShiftTo 39 = .ok (.isub, 1) := by decide +kernel
theorem dX4_placeToShiftTo_40 : decode cX4_placeToShiftTo 40 = .ok (.isub, 1) := by decide +kernel
theorem dX4_placeToShiftTo_41 : decode cX4_placeToShiftTo 41 = .ok (.goto 14, 3) := by decide +kernel
theorem dX4_placeToShiftTo_44 : decode cX4_placeToShiftTo 44 = .ok (.iload 5, 2) := by decide +kernel
theorem dX4_placeToShiftTo_46 : decode cX4_placeToShiftTo 46 = .ok (.iload_n 2, 1) := by decide +kernel
theorem dX4_placeToShiftTo_47 : decode cX4_placeToShiftTo 47 = .ok (.aload_n 0, 1) := by decide +kernel
theorem dX4_placeToShiftTo_48 : decode cX4_placeToShiftTo 48 = .ok (.getfield 62, 3) := by decide +kernel
theorem dX4_placeToShiftTo_51 : decode cX4_placeToShiftTo 51 = .ok (.iadd, 1) := by decide +kernel
theorem dX4_placeToShiftTo_52 : decode cX4_placeToShiftTo 52 = .ok (.iload_n 3, 1) := by decide +kernel
theorem dX4_placeToShiftTo_53 : decode cX4_placeToShiftTo 53 = .ok (.isub, 1) := by decide +kernel
theorem dX4_placeToShiftTo_54 : decode cX4_placeToShiftTo 54 = .ok (.iadd, 1) := by decide +kernel
theorem dX4_placeToShiftTo_55 : decode cX4_placeToShiftTo 55 = .ok (.ireturn, 1) := by decide +kernel
theorem dX5_init_0 : decode cX5_init 0 = .ok (.aload_n 0, 1) := by decide +kernel
theorem dX5_init_1 : decode cX5_init 1 = .ok (.invokespecial 3, 3) := by decide +kernel
theorem dX5_init_4 : decode cX5_init 4 = .ok (.aload_n 0, 1) := by decide +kernel
theorem dX5_init_5 : decode cX5_init 5 = .ok (.bipush 120, 2) := by decide +kernel
theorem dX5_init_7 : decode cX5_init 7 = .ok (.newarray .char, 2) := by decide +kernel
theorem dX5_init_9 : decode cX5_init 9 = .ok (.putfield 9, 3) := by decide +kernel
theorem dX5_init_12 : decode cX5_init 12 = .ok (.return_, 1) := by decide +kernel
theorem dX5_isFull_0 : decode cX5_isFull 0 = .ok (.aload_n 0, 1) := by decide +kernel
theorem dX5_isFull_1 : decode cX5_isFull 1 = .ok (.getfield 15, 3) := by decide +kernel
theorem dX5_isFull_4 : decode cX5_isFull 4 = .ok (.bipush 120, 2) := by decide +kernel
theorem dX5_isFull_6 : decode cX5_isFull 6 = .ok (.if_icmp .lt 7, 3) := by decide +kernel
theorem dX5_isFull_9 : decode cX5_isFull 9 = .ok (.iconst 1, 1) := by decide +kernel
theorem dX5_isFull_10 : decode cX5_isFull 10 = .ok (.goto 4, 3) := by decide +kernel
theorem dX5_isFull_13 : decode cX5_isFull 13 = .ok (.iconst 0, 1) := by decide +kernel
theorem dX5_isFull_14 : decode cX5_isFull 14 = .ok (.ireturn, 1) := by decide +kernel
theorem dX5_add_0 : decode cX5_add 0 = .ok (.aload_n 0, 1) := by decide +kernel
theorem dX5_add_1 : decode cX5_add 1 = .ok (.getfield 15, 3) := by decide +kernel
theorem dX5_add_4 : decode cX5_add 4 = .ok (.ifCond .lt 35, 3) := by decide +kernel
theorem dX5_add_7 : decode cX5_add 7 = .ok (.aload_n 0, 1) := by decide +kernel
theorem dX5_add_8 : decode cX5_add 8 = .ok (.getfield 15, 3) := by decide +kernel
theorem dX5_add_11 : decode cX5_add 11 = .ok (.aload_n 0, 1) := by decide +kernel
theorem dX5_add_12 : decode cX5_add 12 = .ok (.getfield 9, 3) := by decide +kernel
theorem dX5_add_15 : decode cX5_add 15 = .ok (.arraylength, 1) := by decide +kernel
theorem dX5_add_16 : decode cX5_add 16 = .ok (.if_icmp .ge 23, 3) := by decide +kernel
theorem dX5_add_19 : decode cX5_add 19 = .ok (.aload_n 0, 1) := by decide +kernel
theorem dX5_add_20 : decode cX5_add 20 = .ok (.getfield 9, 3) := by decide +kernel
theorem dX5_add_23 : decode cX5_add 23 = .ok (.aload_n 0, 1) := by decide +kernel
theorem dX5_add_24 : decode cX5_add 24 = .ok (.getfield 15, 3) := by decide +kernel
theorem dX5_add_27 : decode cX5_add 27 = .ok (.iload_n 1, 1) := by decide +kernel
theorem dX5_add_28 : decode cX5_add 28 = .ok (.castore, 1) := by decide +kernel
theorem dX5_add_29 : decode cX5_add 29 = .ok (.aload_n 0, 1) := by decide +kernel
theorem dX5_add_30 : decode cX5_add 30 = .ok (.dup, 1) := by decide +kernel
theorem dX5_add_31 : decode cX5_add 31 = .ok (.getfield 15, 3) := by decide +kernel
theorem dX5_add_34 : decode cX5_add 34 = .ok (.iconst 1, 1) := by decide +kernel
theorem dX5_add_35 : decode cX5_add 35 = .ok (.iadd, 1) := by decide +kernel
theorem dX5_add_36 : decode cX5_add 36 = .ok (.putfield 15, 3) := by decide +kernel
theorem dX5_add_39 : decode cX5_add 39 = .ok (.aload_n 0, 1) := by decide +kernel
theorem dX5_add_40 : decode cX5_add 40 = .ok (.getfield 15, 3) := by decide +kernel
theorem dX5_add_43 : decode cX5_add 43 = .ok (.ireturn, 1) := by decide +kernel
theorem dX5_hasLetter_0 : decode cX5_hasLetter 0 = .ok (.iload_n 1, 1) := by decide +kernel
theorem dX5_hasLetter_1 : decode cX5_hasLetter 1 = .ok (.ifCond .lt 15, 3) := by decide +kernel
theorem dX5_hasLetter_4 : decode cX5_hasLetter 4 = .ok (.iload_n 1, 1) := by decide +kernel
theorem dX5_hasLetter_5 : decode cX5_hasLetter 5 = .ok (.aload_n 0, 1) := by decide +kernel
theorem dX5_hasLetter_6 : decode cX5_hasLetter 6 = .ok (.getfield 15, 3) := by decide +kernel
theorem dX5_hasLetter_9 : decode cX5_hasLetter 9 = .ok (.if_icmp .ge 7, 3) := by decide +kernel
theorem dX5_hasLetter_12 : decode cX5_hasLetter 12 = .ok (.iconst 1, 1) := by decide +kernel
theorem dX5_hasLetter_13 : decode cX5_hasLetter 13 = .ok (.goto 4, 3) := by decide +kernel
theorem dX5_hasLetter_16 : decode cX5_hasLetter 16 = .ok (.iconst 0, 1) := by decide +kernel
theorem dX5_hasLetter_17 : decode cX5_hasLetter 17 = .ok (.ireturn, 1) := by decide +kernel
theorem dX5_letterAt_0 : decode cX5_letterAt 0 = .ok (.iload_n 1, 1) := by decide +kernel
theorem dX5_letterAt_1 : decode cX5_letterAt 1 = .ok (.ifCond .lt 20, 3) := by decide +kernel
theorem dX5_letterAt_4 : decode cX5_letterAt 4 = .ok (.iload_n 1, 1) := by decide +kernel
theorem dX5_letterAt_5 : decode cX5_letterAt 5 = .ok (.aload_n 0, 1) := by decide +kernel
theorem dX5_letterAt_6 : decode cX5_letterAt 6 = .ok (.getfield 15, 3) := by decide +kernel
theorem dX5_letterAt_9 : decode cX5_letterAt 9 = .ok (.if_icmp .ge 12, 3) := by decide +kernel
theorem dX5_letterAt_12 : decode cX5_letterAt 12 = .ok (.iload_n 1, 1) := by decide +kernel
theorem dX5_letterAt_13 : decode cX5_letterAt 13 = .ok (.aload_n 0, 1) := by decide +kernel
theorem dX5_letterAt_14 : decode cX5_letterAt 14 = .ok (.getfield 9, 3) := by decide +kernel
theorem dX5_letterAt_17 : decode cX5_letterAt 17 = .ok (.arraylength, 1) := by decide +kernel
theorem dX5_letterAt_18 : decode cX5_letterAt 18 = .ok (.if_icmp .lt 5, 3) := by decide +kernel
theorem dX5_letterAt_21 : decode cX5_letterAt 21 = .ok (.iconst (-1), 1) := by decide +kernel
theorem dX5_letterAt_22 : decode cX5_letterAt 22 = .ok (.ireturn, 1) := by decide +kernel
theorem dX5_letterAt_23 : decode cX5_letterAt 23 = .ok (.aload_n 0, 1) := by decide +kernel
theorem dX5_letterAt_24 : decode cX5_letterAt 24 = .ok (.getfield 9, 3) := by decide +kernel
theorem dX5_letterAt_27 : decode cX5_letterAt 27 = .ok (.iload_n 1, 1) := by decide +kernel
theorem dX5_letterAt_28 : decode cX5_letterAt 28 = .ok (.caload, 1) := by decide +kernel
theorem dX5_letterAt_29 : decode cX5_letterAt 29 = .ok (.ireturn, 1) := by decide +kernel
set_option maxRecDepth 20000 in
theorem ggX5_firstError_X5_letterAt : GoodIn wsX5_firstError wsX5_letterAt := goodIn_r _ [5, 6, 7, 39, 40] rfl (by decide +kernel)
set_option maxRecDepth 20000 in
theorem gX5_firstError_X5_letterAt : GoodIn wsX5_firstError (wsV RX5 19 RX5 yX5_letterAt wsX5_letterAt) := goodIn_app (goodIn_r _ [1, 2, 3, 4] rfl (by decide +kernel)) ggX5_firstError_X5_letterAt
set_option maxRecDepth 20000 in
theorem ggX5_firstError_X5_hasLetter : GoodIn wsX5_firstError wsX5_hasLetter := goodIn_r _ [11, 6, 39, 40] rfl (by decide +kernel)
set_option maxRecDepth 20000 in
theorem gX5_firstError_X5_hasLetter : GoodIn wsX5_firstError (wsV RX5 23 RX5 yX5_hasLetter wsX5_hasLetter) := goodIn_app (goodIn_r _ [8, 9, 10, 4] rfl (by decide +kernel)) ggX5_firstError_X5_hasLetter
set_option maxRecDepth 20000 in
theorem ggX5_firstError_X5_errorInCommand : GoodIn wsX5_firstError wsX5_errorInCommand := goodIn_r _ [15, 1, 2, 3, 4, 5, 6, 7, 16, 17, 18, 19, 20, 21, 22, 23, 24, 25, 26, 27, 28, 29, 30, 31, 32, 33, 34, 39, 40] rfl (by decide +kernel)
set_option maxRecDepth 20000 in
theorem gX5_firstError_X5_errorInCommand : GoodIn wsX5_firstError (wsV RX5 27 RX5 yX5_errorInCommand wsX5_errorInCommand) := goodIn_app (goodIn_r _ [12, 13, 14, 4] rfl (by decide +kernel)) ggX5_firstError_X5_errorInCommand
set_option maxRecDepth 20000 in
theorem ggX5_firstError_X5_commandSize : GoodIn wsX5_firstError wsX5_commandSize := goodIn_r _ [38, 1, 2, 3, 4, 5, 6, 7, 39, 40] rfl (by decide +kernel)
set_option maxRecDepth 20000 in
theorem gX5_firstError_X5_commandSize : GoodIn wsX5_firstError (wsV RX5 30 RX5 yX5_commandSize wsX5_commandSize) := goodIn_app (goodIn_r _ [35, 36, 37, 4] rfl (by decide +kernel)) ggX5_firstError_X5_commandSize
theorem dX5_firstError_0 : decode cX5_firstError 0 = .ok (.aload_n 0, 1) := by decide +kernel
theorem dX5_firstError_1 : decode cX5_firstError 1 = .ok (.iconst 0, 1) := by decide +kernel
theorem dX5_firstError_2 : decode cX5_firstError 2 = .ok (.invokevirtual 19, 3) := by decide +kernel
theorem dX5_firstError_5 : decode cX5_firstError 5 = .ok (.bipush 83, 2) := by decide +kernel
theorem dX5_firstError_7 : decode cX5_firstError 7 = .ok (.if_icmp .eq 5, 3) := by decide +kernel
theorem dX5_firstError_10 : decode cX5_firstError 10 = .ok (.iconst 0, 1) := by decide +kernel
