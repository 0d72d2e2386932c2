theorem dX7_reason_8 : decode cX7_reason 8 = .ok (.iconst 1, 1) := by decide +kernel
theorem dX7_reason_9 : decode cX7_reason 9 = .ok (.goto 16, 3) := by decide +kernel
theorem dX7_reason_12 : decode cX7_reason 12 = .ok (.aload_n 0, 1) := by decide +kernel
theorem dX7_reason_13 : decode cX7_reason 13 = .ok (.iload_n 1, 1) := by decide +kernel
theorem dX7_reason_14 : decode cX7_reason 14 = .ok (.invokestatic 76, 3) := by decide +kernel
theorem dX7_reason_17 : decode cX7_reason 17 = .ok (.ifCond .ne 7, 3) := by decide +kernel
theorem dX7_reason_20 : decode cX7_reason 20 = .ok (.iconst 2, 1) := by decide +kernel
theorem dX7_reason_21 : decode cX7_reason 21 = .ok (.goto 4, 3) := by decide +kernel
theorem dX7_reason_24 : decode cX7_reason 24 = .ok (.iconst 0, 1) := by decide +kernel
theorem dX7_reason_25 : decode cX7_reason 25 = .ok (.ireturn, 1) := by decide +kernel
theorem dX7_chance_0 : decode cX7_chance 0 = .ok (.aload_n 0, 1) := by decide +kernel
theorem dX7_chance_1 : decode cX7_chance 1 = .ok (.iconst 5, 1) := by decide +kernel
theorem dX7_chance_2 : decode cX7_chance 2 = .ok (.iaload, 1) := by decide +kernel
theorem dX7_chance_3 : decode cX7_chance 3 = .ok (.i2l, 1) := by decide +kernel
theorem dX7_chance_4 : decode cX7_chance 4 = .ok (.bipush 32, 2) := by decide +kernel
theorem dX7_chance_6 : decode cX7_chance 6 = .ok (.lshl, 1) := by decide +kernel
theorem dX7_chance_7 : decode cX7_chance 7 = .ok (.aload_n 0, 1) := by decide +kernel
theorem dX7_chance_8 : decode cX7_chance 8 = .ok (.bipush 6, 2) := by decide +kernel
theorem dX7_chance_10 : decode cX7_chance 10 = .ok (.iaload, 1) := by decide +kernel
theorem dX7_chance_11 : decode cX7_chance 11 = .ok (.i2l, 1) := by decide +kernel
theorem dX7_chance_12 : decode cX7_chance 12 = .ok (.ldc2_w 79, 3) := by decide +kernel
theorem dX7_chance_15 : decode cX7_chance 15 = .ok (.land, 1) := by decide +kernel
theorem dX7_chance_16 : decode cX7_chance 16 = .ok (.lor, 1) := by decide +kernel
theorem dX7_chance_17 : decode cX7_chance 17 = .ok (.lreturn, 1) := by decide +kernel
theorem dX7_layChance_0 : decode cX7_layChance 0 = .ok (.aload_n 0, 1) := by decide +kernel
theorem dX7_layChance_1 : decode cX7_layChance 1 = .ok (.iconst 5, 1) := by decide +kernel
theorem dX7_layChance_2 : decode cX7_layChance 2 = .ok (.lload_n 1, 1) := by decide +kernel
theorem dX7_layChance_3 : decode cX7_layChance 3 = .ok (.bipush 32, 2) := by decide +kernel
theorem dX7_layChance_5 : decode cX7_layChance 5 = .ok (.lshr, 1) := by decide +kernel
theorem dX7_layChance_6 : decode cX7_layChance 6 = .ok (.l2i, 1) := by decide +kernel
theorem dX7_layChance_7 : decode cX7_layChance 7 = .ok (.iastore, 1) := by decide +kernel
theorem dX7_layChance_8 : decode cX7_layChance 8 = .ok (.aload_n 0, 1) := by decide +kernel
theorem dX7_layChance_9 : decode cX7_layChance 9 = .ok (.bipush 6, 2) := by decide +kernel
theorem dX7_layChance_11 : decode cX7_layChance 11 = .ok (.lload_n 1, 1) := by decide +kernel
theorem dX7_layChance_12 : decode cX7_layChance 12 = .ok (.l2i, 1) := by decide +kernel
theorem dX7_layChance_13 : decode cX7_layChance 13 = .ok (.iastore, 1) := by decide +kernel
theorem dX7_layChance_14 : decode cX7_layChance 14 = .ok (.return_, 1) := by decide +kernel
set_option maxRecDepth 20000 in
theorem ggX7_byRule_X7_gapFrom : GoodIn wsX7_byRule wsX7_gapFrom := goodIn_r _ [4] rfl (by decide +kernel)
set_option maxRecDepth 20000 in
theorem gX7_byRule_X7_gapFrom : GoodIn wsX7_byRule (va_wsS RX7 66 yX7_gapFrom wsX7_gapFrom) := goodIn_app (goodIn_r _ [1, 2, 3] rfl (by decide +kernel)) ggX7_byRule_X7_gapFrom
set_option maxRecDepth 20000 in
theorem ggX7_byRule_X7_gapCells : GoodIn wsX7_byRule wsX7_gapCells := goodIn_r _ [7] rfl (by decide +kernel)
set_option maxRecDepth 20000 in
theorem gX7_byRule_X7_gapCells : GoodIn wsX7_byRule (va_wsS RX7 62 yX7_gapCells wsX7_gapCells) := goodIn_app (goodIn_r _ [5, 6, 3] rfl (by decide +kernel)) ggX7_byRule_X7_gapCells
set_option maxRecDepth 20000 in
theorem ggX7_byRule_X7_nextGap : GoodIn wsX7_byRule wsX7_nextGap := goodIn_r _ [10, 5, 6, 3, 7, 1, 2, 4] rfl (by decide +kernel)
set_option maxRecDepth 20000 in
theorem gX7_byRule_X7_nextGap : GoodIn wsX7_byRule (va_wsS RX7 69 yX7_nextGap wsX7_nextGap) := goodIn_app (goodIn_r _ [8, 9, 3] rfl (by decide +kernel)) ggX7_byRule_X7_nextGap
theorem dX7_byRule_0 : decode cX7_byRule 0 = .ok (.iconst (-1), 1) := by decide +kernel
theorem dX7_byRule_1 : decode cX7_byRule 1 = .ok (.istore_n 2, 1) := by decide +kernel
theorem dX7_byRule_2 : decode cX7_byRule 2 = .ok (.aload_n 0, 1) := by decide +kernel
theorem dX7_byRule_3 : decode cX7_byRule 3 = .ok (.iconst 0, 1) := by decide +kernel
theorem dX7_byRule_4 : decode cX7_byRule 4 = .ok (.invokestatic 66, 3) := by decide +kernel
theorem dX7_byRule_7 : decode cX7_byRule 7 = .ok (.istore_n 3, 1) := by decide +kernel
theorem dX7_byRule_8 : decode cX7_byRule 8 = .ok (.iload_n 3, 1) := by decide +kernel
theorem dX7_byRule_9 : decode cX7_byRule 9 = .ok (.bipush 80, 2) := by decide +kernel
theorem dX7_byRule_11 : decode cX7_byRule 11 = .ok (.if_icmp .ge 68, 3) := by decide +kernel
theorem dX7_byRule_14 : decode cX7_byRule 14 = .ok (.aload_n 0, 1) := by decide +kernel
theorem dX7_byRule_15 : decode cX7_byRule 15 = .ok (.iload_n 3, 1) := by decide +kernel
theorem dX7_byRule_16 : decode cX7_byRule 16 = .ok (.invokestatic 62, 3) := by decide +kernel
theorem dX7_byRule_19 : decode cX7_byRule 19 = .ok (.iload_n 1, 1) := by decide +kernel
theorem dX7_byRule_20 : decode cX7_byRule 20 = .ok (.aload_n 0, 1) := by decide +kernel
theorem dX7_byRule_21 : decode cX7_byRule 21 = .ok (.iconst 3, 1) := by decide +kernel
theorem dX7_byRule_22 : decode cX7_byRule 22 = .ok (.iaload, 1) := by decide +kernel
theorem dX7_byRule_23 : decode cX7_byRule 23 = .ok (.iadd, 1) := by decide +kernel
theorem dX7_byRule_24 : decode cX7_byRule 24 = .ok (.if_icmp .lt 7, 3) := by decide +kernel
theorem dX7_byRule_27 : decode cX7_byRule 27 = .ok (.iconst 1, 1) := by decide +kernel
theorem dX7_byRule_28 : decode cX7_byRule 28 = .ok (.goto 4, 3) := by decide +kernel
theorem dX7_byRule_31 : decode cX7_byRule 31 = .ok (.iconst 0, 1) := by decide +kernel
theorem dX7_byRule_32 : decode cX7_byRule 32 = .ok (.istore 4, 2) := by decide +kernel
theorem dX7_byRule_34 : decode cX7_byRule 34 = .ok (.iload 4, 2) := by decide +kernel
theorem dX7_byRule_36 : decode cX7_byRule 36 = .ok (.ifCond .eq 32, 3) := by decide +kernel
theorem dX7_byRule_39 : decode cX7_byRule 39 = .ok (.iload_n 2, 1) := by decide +kernel
theorem dX7_byRule_40 : decode cX7_byRule 40 = .ok (.iconst (-1), 1) := by decide +kernel
theorem dX7_byRule_41 : decode cX7_byRule 41 = .ok (.if_icmp .eq 23, 3) := by decide +kernel
theorem dX7_byRule_44 : decode cX7_byRule 44 = .ok (.aload_n 0, 1) := by decide +kernel
theorem dX7_byRule_45 : decode cX7_byRule 45 = .ok (.iconst 2, 1) := by decide +kernel
theorem dX7_byRule_46 : decode cX7_byRule 46 = .ok (.iaload, 1) := by decide +kernel
theorem dX7_byRule_47 : decode cX7_byRule 47 = .ok (.iconst 1, 1) := by decide +kernel
theorem dX7_byRule_48 : decode cX7_byRule 48 = .ok (.if_icmp .ne 20, 3) := by decide +kernel
theorem dX7_byRule_51 : decode cX7_byRule 51 = .ok (.aload_n 0, 1) := by decide +kernel
theorem dX7_byRule_52 : decode cX7_byRule 52 = .ok (.iload_n 3, 1) := by decide +kernel
theorem dX7_byRule_53 : decode cX7_byRule 53 = .ok (.invokestatic 62, 3) := by decide +kernel
theorem dX7_byRule_56 : decode cX7_byRule 56 = .ok (.aload_n 0, 1) := by decide +kernel
theorem dX7_byRule_57 : decode cX7_byRule 57 = .ok (.iload_n 2, 1) := by decide +kernel
theorem dX7_byRule_58 : decode cX7_byRule 58 = .ok (.invokestatic 62, 3) := by decide +kernel
theorem dX7_byRule_61 : decode cX7_byRule 61 = .ok (.if_icmp .ge 7, 3) := by decide +kernel
theorem dX7_byRule_64 : decode cX7_byRule 64 = .ok (.iload_n 3, 1) := by decide +kernel
theorem dX7_byRule_65 : decode cX7_byRule 65 = .ok (.goto 4, 3) := by decide +kernel
theorem dX7_byRule_68 : decode cX7_byRule 68 = .ok (.iload_n 2, 1) := by decide +kernel
theorem dX7_byRule_69 : decode cX7_byRule 69 = .ok (.istore_n 2, 1) := by decide +kernel
theorem dX7_byRule_70 : decode cX7_byRule 70 = .ok (.aload_n 0, 1) := by decide +kernel
theorem dX7_byRule_71 : decode cX7_byRule 71 = .ok (.iload_n 3, 1) := by decide +kernel
theorem dX7_byRule_72 : decode cX7_byRule 72 = .ok (.invokestatic 69, 3) := by decide +kernel
theorem dX7_byRule_75 : decode cX7_byRule 75 = .ok (.istore_n 3, 1) := by decide +kernel
theorem dX7_byRule_76 : decode cX7_byRule 76 = .ok (.goto (-68), 3) := by decide +kernel
theorem dX7_byRule_79 : decode cX7_byRule 79 = .ok (.iload_n 2, 1) := by decide +kernel
theorem dX7_byRule_80 : decode cX7_byRule 80 = .ok (.ireturn, 1) := by decide +kernel
set_option maxRecDepth 20000 in
theorem ggX7_byChance_X7_gapFrom : GoodIn wsX7_byChance wsX7_gapFrom := goodIn_r _ [6] rfl (by decide +kernel)
set_option maxRecDepth 20000 in
theorem gX7_byChance_X7_gapFrom : GoodIn wsX7_byChance (va_wsS RX7 66 yX7_gapFrom wsX7_gapFrom) := goodIn_app (goodIn_r _ [3, 4, 5] rfl (by decide +kernel)) ggX7_byChance_X7_gapFrom
set_option maxRecDepth 20000 in
theorem ggX7_byChance_X7_gapCells : GoodIn wsX7_byChance wsX7_gapCells := goodIn_r _ [9] rfl (by decide +kernel)
set_option maxRecDepth 20000 in
theorem gX7_byChance_X7_gapCells : GoodIn wsX7_byChance (va_wsS RX7 62 yX7_gapCells wsX7_gapCells) := goodIn_app (goodIn_r _ [7, 8, 5] rfl (by decide +kernel)) ggX7_byChance_X7_gapCells
set_option maxRecDepth 20000 in
theorem ggX7_byChance_X7_nextGap : GoodIn wsX7_byChance wsX7_nextGap := goodIn_r _ [12, 7, 8, 5, 9, 3, 4, 6] rfl (by decide +kernel)
set_option maxRecDepth 20000 in
theorem gX7_byChance_X7_nextGap : GoodIn wsX7_byChance (va_wsS RX7 69 yX7_nextGap wsX7_nextGap) := goodIn_app (goodIn_r _ [10, 11, 5] rfl (by decide +kernel)) ggX7_byChance_X7_nextGap
set_option maxRecDepth 20000 in
theorem ggX7_byChance_X7_chance : GoodIn wsX7_byChance wsX7_chance := goodIn_r _ [15, 16] rfl (by decide +kernel)
set_option maxRecDepth 20000 in
theorem gX7_byChance_X7_chance : GoodIn wsX7_byChance (va_wsS RX7 81 yX7_chance wsX7_chance) := goodIn_app (goodIn_r _ [13, 14, 5] rfl (by decide +kernel)) ggX7_byChance_X7_chance
set_option maxRecDepth 20000 in
theorem ggX7_byChance_X7_layChance : GoodIn wsX7_byChance wsX7_layChance := goodIn_r _ [19] rfl (by decide +kernel)
set_option maxRecDepth 20000 in
theorem gX7_byChance_X7_layChance : GoodIn wsX7_byChance (va_wsS RX7 89 yX7_layChance wsX7_layChance) := goodIn_app (goodIn_r _ [17, 18, 5] rfl (by decide +kernel)) ggX7_byChance_X7_layChance
theorem dX7_byChance_0 : decode cX7_byChance 0 = .ok (.iconst 0, 1) := by decide +kernel
theorem dX7_byChance_1 : decode cX7_byChance 1 = .ok (.istore_n 2, 1) := by decide +kernel
theorem dX7_byChance_2 : decode cX7_byChance 2 = .ok (.aload_n 0, 1) := by decide +kernel
theorem dX7_byChance_3 : decode cX7_byChance 3 = .ok (.iconst 0, 1) := by decide +kernel
theorem dX7_byChance_4 : decode cX7_byChance 4 = .ok (.invokestatic 66, 3) := by decide +kernel
theorem dX7_byChance_7 : decode cX7_byChance 7 = .ok (.istore_n 3, 1) := by decide +kernel
theorem dX7_byChance_8 : decode cX7_byChance 8 = .ok (.iload_n 3, 1) := by decide +kernel
theorem dX7_byChance_9 : decode cX7_byChance 9 = .ok (.bipush 80, 2) := by decide +kernel
theorem dX7_byChance_11 : decode cX7_byChance 11 = .ok (.if_icmp .ge 41, 3) := by decide +kernel
theorem dX7_byChance_14 : decode cX7_byChance 14 = .ok (.iload_n 2, 1) := by decide +kernel
theorem dX7_byChance_15 : decode cX7_byChance 15 = .ok (.aload_n 0, 1) := by decide +kernel
theorem dX7_byChance_16 : decode cX7_byChance 16 = .ok (.iload_n 3, 1) := by decide +kernel
theorem dX7_byChance_17 : decode cX7_byChance 17 = .ok (.invokestatic 62, 3) := by decide +kernel
theorem dX7_byChance_20 : decode cX7_byChance 20 = .ok (.iload_n 1, 1) := by decide +kernel
theorem dX7_byChance_21 : decode cX7_byChance 21 = .ok (.aload_n 0, 1) := by decide +kernel
theorem dX7_byChance_22 : decode cX7_byChance 22 = .ok (.iconst 3, 1) := by decide +kernel
theorem dX7_byChance_23 : decode cX7_byChance 23 = .ok (.iaload, 1) := by decide +kernel
theorem dX7_byChance_24 : decode cX7_byChance 24 = .ok (.iadd, 1) := by decide +kernel
theorem dX7_byChance_25 : decode cX7_byChance 25 = .ok (.if_icmp .lt 15, 3) := by decide +kernel
theorem dX7_byChance_28 : decode cX7_byChance 28 = .ok (.aload_n 0, 1) := by decide +kernel
theorem dX7_byChance_29 : decode cX7_byChance 29 = .ok (.iload_n 3, 1) := by decide +kernel
theorem dX7_byChance_30 : decode cX7_byChance 30 = .ok (.invokestatic 62, 3) := by decide +kernel
theorem dX7_byChance_33 : decode cX7_byChance 33 = .ok (.iload_n 1, 1) := by decide +kernel
theorem dX7_byChance_34 : decode cX7_byChance 34 = .ok (.isub, 1) := by decide +kernel
theorem dX7_byChance_35 : decode cX7_byChance 35 = .ok (.iconst 1, 1) := by decide +kernel
theorem dX7_byChance_36 : decode cX7_byChance 36 = .ok (.iadd, 1) := by decide +kernel
theorem dX7_byChance_37 : decode cX7_byChance 37 = .ok (.goto 4, 3) := by decide +kernel
theorem dX7_byChance_40 : decode cX7_byChance 40 = .ok (.iconst 0, 1) := by decide +kernel
theorem dX7_byChance_41 : decode cX7_byChance 41 = .ok (.iadd, 1) := by decide +kernel
theorem dX7_byChance_42 : decode cX7_byChance 42 = .ok (.istore_n 2, 1) := by decide +kernel
theorem dX7_byChance_43 : decode cX7_byChance 43 = .ok (.aload_n 0, 1) := by decide +kernel
theorem dX7_byChance_44 : decode cX7_byChance 44 = .ok (.iload_n 3, 1) := by decide +kernel
theorem dX7_byChance_45 : decode cX7_byChance 45 = .ok (.invokestatic 69, 3) := by decide +kernel
theorem dX7_byChance_48 : decode cX7_byChance 48 = .ok (.istore_n 3, 1) := by decide +kernel
theorem dX7_byChance_49 : decode cX7_byChance 49 = .ok (.goto (-41), 3) := by decide +kernel
theorem dX7_byChance_52 : decode cX7_byChance 52 = .ok (.iload_n 2, 1) := by decide +kernel
theorem dX7_byChance_53 : decode cX7_byChance 53 = .ok (.ifCond .ne 5, 3) := by decide +kernel
theorem dX7_byChance_56 : decode cX7_byChance 56 = .ok (.iconst (-1), 1) := by decide +kernel
theorem dX7_byChance_57 : decode cX7_byChance 57 = .ok (.ireturn, 1) := by decide +kernel
theorem dX7_byChance_58 : decode cX7_byChance 58 = .ok (.aload_n 0, 1) := by decide +kernel
theorem dX7_byChance_59 : decode cX7_byChance 59 = .ok (.invokestatic 81, 3) := by decide +kernel
theorem dX7_byChance_62 : decode cX7_byChance 62 = .ok (.ldc2_w 85, 3) := by decide +kernel
theorem dX7_byChance_65 : decode cX7_byChance 65 = .ok (.lmul, 1) := by decide +kernel
theorem dX7_byChance_66 : decode cX7_byChance 66 = .ok (.ldc2_w 87, 3) := by decide +kernel
theorem dX7_byChance_69 : decode cX7_byChance 69 = .ok (.ladd, 1) := by decide +kernel
theorem dX7_byChance_70 : decode cX7_byChance 70 = .ok (.lstore_n 3, 1) := by decide +kernel
theorem dX7_byChance_71 : decode cX7_byChance 71 = .ok (.aload_n 0, 1) := by decide +kernel
theorem dX7_byChance_72 : decode cX7_byChance 72 = .ok (.lload_n 3, 1) := by decide +kernel
theorem dX7_byChance_73 : decode cX7_byChance 73 = .ok (.invokestatic 89, 3) := by decide +kernel
theorem dX7_byChance_76 : decode cX7_byChance 76 = .ok (.lload_n 3, 1) := by decide +kernel
theorem dX7_byChance_77 : decode cX7_byChance 77 = .ok (.bipush 33, 2) := by decide +kernel
theorem dX7_byChance_79 : decode cX7_byChance 79 = .ok (.lushr, 1) := by decide +kernel
theorem dX7_byChance_80 : decode cX7_byChance 80 = .ok (.l2i, 1) := by decide +kernel
theorem dX7_byChance_81 : decode cX7_byChance 81 = .ok (.iload_n 2, 1) := by decide +kernel
theorem dX7_byChance_82 : decode cX7_byChance 82 = .ok (.irem, 1) := by decide +kernel
theorem dX7_byChance_83 : decode cX7_byChance 83 = .ok (.istore 5, 2) := by decide +kernel
theorem dX7_byChance_85 : decode cX7_byChance 85 = .ok (.aload_n 0, 1) := by decide +kernel
theorem dX7_byChance_86 : decode cX7_byChance 86 = .ok (.iconst 0, 1) := by decide +kernel
theorem dX7_byChance_87 : decode cX7_byChance 87 = .ok (.invokestatic 66, 3) := by decide +kernel
theorem dX7_byChance_90 : decode cX7_byChance 90 = .ok (.istore 6, 2) := by decide +kernel
theorem dX7_byChance_92 : decode cX7_byChance 92 = .ok (.iload 6, 2) := by decide +kernel
theorem dX7_byChance_94 : decode cX7_byChance 94 = .ok (.bipush 80, 2) := by decide +kernel
theorem dX7_byChance_96 : decode cX7_byChance 96 = .ok (.if_icmp .ge 64, 3) := by decide +kernel
theorem dX7_byChance_99 : decode cX7_byChance 99 = .ok (.aload_n 0, 1) := by decide +kernel
theorem dX7_byChance_100 : decode cX7_byChance 100 = .ok (.iload 6, 2) := by decide +kernel
theorem dX7_byChance_102 : decode cX7_byChance 102 = .ok (.invokestatic 62, 3) := by decide +kernel
theorem dX7_byChance_105 : decode cX7_byChance 105 = .ok (.iload_n 1, 1) := by decide +kernel
theorem dX7_byChance_106 : decode cX7_byChance 106 = .ok (.aload_n 0, 1) := by decide +kernel
theorem dX7_byChance_107 : decode cX7_byChance 107 = .ok (.iconst 3, 1) := by decide +kernel
theorem dX7_byChance_108 : decode cX7_byChance 108 = .ok (.iaload, 1) := by decide +kernel
theorem dX7_byChance_109 : decode cX7_byChance 109 = .ok (.iadd, 1) := by decide +kernel
theorem dX7_byChance_110 : decode cX7_byChance 110 = .ok (.if_icmp .lt 16, 3) := by decide +kernel
theorem dX7_byChance_113 : decode cX7_byChance 113 = .ok (.aload_n 0, 1) := by decide +kernel
theorem dX7_byChance_114 : decode cX7_byChance 114 = .ok (.iload 6, 2) := by decide +kernel
theorem dX7_byChance_116 : decode cX7_byChance 116 = .ok (.invokestatic 62, 3) := by decide +kernel
theorem dX7_byChance_119 : decode cX7_byChance 119 = .ok (.iload_n 1, 1) := by decide +kernel
theorem dX7_byChance_120 : decode cX7_byChance 120 = .ok (.isub, 1) := by decide +kernel
theorem dX7_byChance_121 : decode cX7_byChance 121 = .ok (.iconst 1, 1) := by decide +kernel
theorem dX7_byChance_122 : decode cX7_byChance 122 = .ok (.iadd, 1) := by decide +kernel
theorem dX7_byChance_123 : decode cX7_byChance 123 = .ok (.goto 4, 3) := by decide +kernel
theorem dX7_byChance_126 : decode cX7_byChance 126 = .ok (.iconst 0, 1) := by decide +kernel
theorem dX7_byChance_127 : decode cX7_byChance 127 = .ok (.istore 7, 2) := by decide +kernel
theorem dX7_byChance_129 : decode cX7_byChance 129 = .ok (.iload 5, 2) := by decide +kernel
theorem dX7_byChance_131 : decode cX7_byChance 131 = .ok (.iload 7, 2) := by decide +kernel
theorem dX7_byChance_133 : decode cX7_byChance 133 = .ok (.if_icmp .ge 9, 3) := by decide +kernel
theorem dX7_byChance_136 : decode cX7_byChance 136 = .ok (.iload 6, 2) := by decide +kernel
theorem dX7_byChance_138 : decode cX7_byChance 138 = .ok (.iload 5, 2) := by decide +kernel
theorem dX7_byChance_140 : decode cX7_byChance 140 = .ok (.iadd, 1) := by decide +kernel
theorem dX7_byChance_141 : decode cX7_byChance 141 = .ok (.ireturn, 1) := by decide +kernel
theorem dX7_byChance_142 : decode cX7_byChance 142 = .ok (.iload 5, 2) := by decide +kernel
theorem dX7_byChance_144 : decode cX7_byChance 144 = .ok (.iload 7, 2) := by decide +kernel
theorem dX7_byChance_146 : decode cX7_byChance 146 = .ok (.isub, 1) := by decide +kernel
theorem dX7_byChance_147 : decode cX7_byChance 147 = .ok (.istore 5, 2) := by decide +kernel
theorem dX7_byChance_149 : decode cX7_byChance 149 = .ok (.aload_n 0, 1) := by decide +kernel
theorem dX7_byChance_150 : decode cX7_byChance 150 = .ok (.iload 6, 2) := by decide +kernel
theorem dX7_byChance_152 : decode cX7_byChance 152 = .ok (.invokestatic 69, 3) := by decide +kernel
theorem dX7_byChance_155 : decode cX7_byChance 155 = .ok (.istore 6, 2) := by decide +kernel
theorem dX7_byChance_157 : decode cX7_byChance 157 = .ok (.goto (-65), 3) := by decide +kernel
theorem dX7_byChance_160 : decode cX7_byChance 160 = .ok (.iconst (-1), 1) := by decide +kernel
theorem dX7_byChance_161 : decode cX7_byChance 161 = .ok (.ireturn, 1) := by decide +kernel
set_option maxRecDepth 20000 in
theorem ggX7_placeFor_X7_byChance : GoodIn wsX7_placeFor wsX7_byChance := goodIn_r _ [4, 5, 6, 7, 8, 3, 9, 10, 11, 12, 13, 14, 15, 16, 17, 18, 19, 20, 21, 22] rfl (by decide +kernel)
set_option maxRecDepth 20000 in
theorem gX7_placeFor_X7_byChance : GoodIn wsX7_placeFor (va_wsS RX7 93 yX7_byChance wsX7_byChance) := goodIn_app (goodIn_r _ [1, 2, 3] rfl (by decide +kernel)) ggX7_placeFor_X7_byChance
set_option maxRecDepth 20000 in
theorem ggX7_placeFor_X7_byRule : GoodIn wsX7_placeFor wsX7_byRule := goodIn_r _ [25, 7, 8, 3, 9, 10, 11, 12, 13, 14, 15] rfl (by decide +kernel)
set_option maxRecDepth 20000 in
theorem gX7_placeFor_X7_byRule : GoodIn wsX7_placeFor (va_wsS RX7 96 yX7_byRule wsX7_byRule) := goodIn_app (goodIn_r _ [23, 24, 3] rfl (by decide +kernel)) ggX7_placeFor_X7_byRule
theorem dX7_placeFor_0 : decode cX7_placeFor 0 = .ok (.aload_n 0, 1) := by decide +kernel
theorem dX7_placeFor_1 : decode cX7_placeFor 1 = .ok (.iconst 2, 1) := by decide +kernel
theorem dX7_placeFor_2 : decode cX7_placeFor 2 = .ok (.iaload, 1) := by decide +kernel
theorem dX7_placeFor_3 : decode cX7_placeFor 3 = .ok (.iconst 2, 1) := by decide +kernel
theorem dX7_placeFor_4 : decode cX7_placeFor 4 = .ok (.if_icmp .ne 11, 3) := by decide +kernel
theorem dX7_placeFor_7 : decode cX7_placeFor 7 = .ok (.aload_n 0, 1) := by decide +kernel
theorem dX7_placeFor_8 : decode cX7_placeFor 8 = .ok (.iload_n 1, 1) := by decide +kernel
theorem dX7_placeFor_9 : decode cX7_placeFor 9 = .ok (.invokestatic 93, 3) := by decide +kernel
theorem dX7_placeFor_12 : decode cX7_placeFor 12 = .ok (.goto 8, 3) := by decide +kernel
theorem dX7_placeFor_15 : decode cX7_placeFor 15 = .ok (.aload_n 0, 1) := by decide +kernel
theorem dX7_placeFor_16 : decode cX7_placeFor 16 = .ok (.iload_n 1, 1) := by decide +kernel
theorem dX7_placeFor_17 : decode cX7_placeFor 17 = .ok (.invokestatic 96, 3) := by decide +kernel
theorem dX7_placeFor_20 : decode cX7_placeFor 20 = .ok (.ireturn, 1) := by decide +kernel
theorem dX7_fill_0 : decode cX7_fill 0 = .ok (.iload_n 1, 1) := by decide +kernel
theorem dX7_fill_1 : decode cX7_fill 1 = .ok (.istore 4, 2) := by decide +kernel
theorem dX7_fill_3 : decode cX7_fill 3 = .ok (.iload 4, 2) := by decide +kernel
theorem dX7_fill_5 : decode cX7_fill 5 = .ok (.iload_n 1, 1) := by decide +kernel
theorem dX7_fill_6 : decode cX7_fill 6 = .ok (.iload_n 2, 1) := by decide +kernel
theorem dX7_fill_7 : decode cX7_fill 7 = .ok (.iadd, 1) := by decide +kernel
theorem dX7_fill_8 : decode cX7_fill 8 = .ok (.if_icmp .ge 17, 3) := by decide +kernel
theorem dX7_fill_11 : decode cX7_fill 11 = .ok (.aload_n 0, 1) := by decide +kernel
theorem dX7_fill_12 : decode cX7_fill 12 = .ok (.bipush 7, 2) := by decide +kernel
theorem dX7_fill_14 : decode cX7_fill 14 = .ok (.iload 4, 2) := by decide +kernel
theorem dX7_fill_16 : decode cX7_fill 16 = .ok (.iadd, 1) := by decide +kernel
theorem dX7_fill_17 : decode cX7_fill 17 = .ok (.iload_n 3, 1) := by decide +kernel
theorem dX7_fill_18 : decode cX7_fill 18 = .ok (.iastore, 1) := by decide +kernel
theorem dX7_fill_19 : decode cX7_fill 19 = .ok (.iinc 4 1, 3) := by decide +kernel
theorem dX7_fill_22 : decode cX7_fill 22 = .ok (.goto (-19), 3) := by decide +kernel
theorem dX7_fill_25 : decode cX7_fill 25 = .ok (.return_, 1) := by decide +kernel
set_option maxRecDepth 20000 in
theorem ggX7_parks_X7_of : GoodIn wsX7_parks wsX7_of := goodIn_r _ [4] rfl (by decide +kernel)
set_option maxRecDepth 20000 in
theorem gX7_parks_X7_of : GoodIn wsX7_parks (va_wsS RX7 48 yX7_of wsX7_of) := goodIn_app (goodIn_r _ [1, 2, 3] rfl (by decide +kernel)) ggX7_parks_X7_of
set_option maxRecDepth 20000 in
theorem ggX7_parks_X7_placeFor : GoodIn wsX7_parks wsX7_placeFor := goodIn_r _ [7, 8, 9, 3, 10, 11, 12, 13, 14, 15, 16, 17, 18, 19, 20, 21, 22, 23, 24, 25, 26, 27, 28, 29, 30, 31] rfl (by decide +kernel)
set_option maxRecDepth 20000 in
theorem gX7_parks_X7_placeFor : GoodIn wsX7_parks (va_wsS RX7 99 yX7_placeFor wsX7_placeFor) := goodIn_app (goodIn_r _ [5, 6, 3] rfl (by decide +kernel)) ggX7_parks_X7_placeFor
set_option maxRecDepth 20000 in
theorem ggX7_parks_X7_fill : GoodIn wsX7_parks wsX7_fill := goodIn_r _ [34] rfl (by decide +kernel)
set_option maxRecDepth 20000 in
theorem gX7_parks_X7_fill : GoodIn wsX7_parks (va_wsS RX7 102 yX7_fill wsX7_fill) := goodIn_app (goodIn_r _ [32, 33, 3] rfl (by decide +kernel)) ggX7_parks_X7_fill
set_option maxRecDepth 20000 in
theorem ggX7_parks_X7_lay : GoodIn wsX7_parks wsX7_lay := goodIn_r _ [37] rfl (by decide +kernel)
set_option maxRecDepth 20000 in
theorem gX7_parks_X7_lay : GoodIn wsX7_parks (va_wsS RX7 106 yX7_lay wsX7_lay) := goodIn_app (goodIn_r _ [35, 36, 3] rfl (by decide +kernel)) ggX7_parks_X7_lay
theorem dX7_parks_0 : decode cX7_parks 0 = .ok (.aload_n 0, 1) := by decide +kernel
theorem dX7_parks_1 : decode cX7_parks 1 = .ok (.aload_n 0, 1) := by decide +kernel
theorem dX7_parks_2 : decode cX7_parks 2 = .ok (.iload_n 1, 1) := by decide +kernel
theorem dX7_parks_3 : decode cX7_parks 3 = .ok (.iconst 0, 1) := by decide +kernel
theorem dX7_parks_4 : decode cX7_parks 4 = .ok (.invokestatic 48, 3) := by decide +kernel
theorem dX7_parks_7 : decode cX7_parks 7 = .ok (.invokestatic 99, 3) := by decide +kernel
theorem dX7_parks_10 : decode cX7_parks 10 = .ok (.istore_n 2, 1) := by decide +kernel
theorem dX7_parks_11 : decode cX7_parks 11 = .ok (.iload_n 2, 1) := by decide +kernel
theorem dX7_parks_12 : decode cX7_parks 12 = .ok (.iconst (-1), 1) := by decide +kernel
theorem dX7_parks_13 : decode cX7_parks 13 = .ok (.if_icmp .eq 29, 3) := by decide +kernel
theorem dX7_parks_16 : decode cX7_parks 16 = .ok (.aload_n 0, 1) := by decide +kernel
theorem dX7_parks_17 : decode cX7_parks 17 = .ok (.iload_n 2, 1) := by decide +kernel
theorem dX7_parks_18 : decode cX7_parks 18 = .ok (.aload_n 0, 1) := by decide +kernel
theorem dX7_parks_19 : decode cX7_parks 19 = .ok (.iload_n 1, 1) := by decide +kernel
theorem dX7_parks_20 : decode cX7_parks 20 = .ok (.iconst 0, 1) := by decide +kernel
theorem dX7_parks_21 : decode cX7_parks 21 = .ok (.invokestatic 48, 3) := by decide +kernel
theorem dX7_parks_24 : decode cX7_parks 24 = .ok (.iload_n 1, 1) := by decide +kernel
theorem dX7_parks_25 : decode cX7_parks 25 = .ok (.invokestatic 102, 3) := by decide +kernel
theorem dX7_parks_28 : decode cX7_parks 28 = .ok (.aload_n 0, 1) := by decide +kernel
theorem dX7_parks_29 : decode cX7_parks 29 = .ok (.iload_n 1, 1) := by decide +kernel
theorem dX7_parks_30 : decode cX7_parks 30 = .ok (.iconst 3, 1) := by decide +kernel
theorem dX7_parks_31 : decode cX7_parks 31 = .ok (.iload_n 2, 1) := by decide +kernel
theorem dX7_parks_32 : decode cX7_parks 32 = .ok (.invokestatic 106, 3) := by decide +kernel
theorem dX7_parks_35 : decode cX7_parks 35 = .ok (.aload_n 0, 1) := by decide +kernel
theorem dX7_parks_36 : decode cX7_parks 36 = .ok (.iload_n 1, 1) := by decide +kernel
theorem dX7_parks_37 : decode cX7_parks 37 = .ok (.iconst 2, 1) := by decide +kernel
theorem dX7_parks_38 : decode cX7_parks 38 = .ok (.iconst 0, 1) := by decide +kernel
theorem dX7_parks_39 : decode cX7_parks 39 = .ok (.invokestatic 106, 3) := by decide +kernel
theorem dX7_parks_42 : decode cX7_parks 42 = .ok (.iload_n 2, 1) := by decide +kernel
theorem dX7_parks_43 : decode cX7_parks 43 = .ok (.iconst (-1), 1) := by decide +kernel
theorem dX7_parks_44 : decode cX7_parks 44 = .ok (.if_icmp .eq 7, 3) := by decide +kernel
theorem dX7_parks_47 : decode cX7_parks 47 = .ok (.iconst 1, 1) := by decide +kernel
theorem dX7_parks_48 : decode cX7_parks 48 = .ok (.goto 4, 3) := by decide +kernel
theorem dX7_parks_51 : decode cX7_parks 51 = .ok (.iconst 0, 1) := by decide +kernel
theorem dX7_parks_52 : decode cX7_parks 52 = .ok (.ireturn, 1) := by decide +kernel
set_option maxRecDepth 20000 in
theorem ggX7_goes_X7_of : GoodIn wsX7_goes wsX7_of := goodIn_r _ [4] rfl (by decide +kernel)
set_option maxRecDepth 20000 in
theorem gX7_goes_X7_of : GoodIn wsX7_goes (va_wsS RX7 48 yX7_of wsX7_of) := goodIn_app (goodIn_r _ [1, 2, 3] rfl (by decide +kernel)) ggX7_goes_X7_of
set_option maxRecDepth 20000 in
theorem ggX7_goes_X7_fill : GoodIn wsX7_goes wsX7_fill := goodIn_r _ [7] rfl (by decide +kernel)
set_option maxRecDepth 20000 in
theorem gX7_goes_X7_fill : GoodIn wsX7_goes (va_wsS RX7 102 yX7_fill wsX7_fill) := goodIn_app (goodIn_r _ [5, 6, 3] rfl (by decide +kernel)) ggX7_goes_X7_fill
set_option maxRecDepth 20000 in
theorem ggX7_goes_X7_lay : GoodIn wsX7_goes wsX7_lay := goodIn_r _ [10] rfl (by decide +kernel)
set_option maxRecDepth 20000 in
theorem gX7_goes_X7_lay : GoodIn wsX7_goes (va_wsS RX7 106 yX7_lay wsX7_lay) := goodIn_app (goodIn_r _ [8, 9, 3] rfl (by decide +kernel)) ggX7_goes_X7_lay
theorem dX7_goes_0 : decode cX7_goes 0 = .ok (.aload_n 0, 1) := by decide +kernel
theorem dX7_goes_1 : decode cX7_goes 1 = .ok (.iload_n 1, 1) := by decide +kernel
theorem dX7_goes_2 : decode cX7_goes 2 = .ok (.iconst 3, 1) := by decide +kernel
theorem dX7_goes_3 : decode cX7_goes 3 = .ok (.invokestatic 48, 3) := by decide +kernel
theorem dX7_goes_6 : decode cX7_goes 6 = .ok (.istore_n 3, 1) := by decide +kernel
theorem dX7_goes_7 : decode cX7_goes 7 = .ok (.aload_n 0, 1) := by decide +kernel
theorem dX7_goes_8 : decode cX7_goes 8 = .ok (.iload_n 3, 1) := by decide +kernel
theorem dX7_goes_9 : decode cX7_goes 9 = .ok (.aload_n 0, 1) := by decide +kernel
theorem dX7_goes_10 : decode cX7_goes 10 = .ok (.iload_n 1, 1) := by decide +kernel
theorem dX7_goes_11 : decode cX7_goes 11 = .ok (.iconst 0, 1) := by decide +kernel
theorem dX7_goes_12 : decode cX7_goes 12 = .ok (.invokestatic 48, 3) := by decide +kernel
theorem dX7_goes_15 : decode cX7_goes 15 = .ok (.iconst (-1), 1) := by decide +kernel
theorem dX7_goes_16 : decode cX7_goes 16 = .ok (.invokestatic 102, 3) := by decide +kernel
theorem dX7_goes_19 : decode cX7_goes 19 = .ok (.aload_n 0, 1) := by decide +kernel
theorem dX7_goes_20 : decode cX7_goes 20 = .ok (.iload_n 1, 1) := by decide +kernel
theorem dX7_goes_21 : decode cX7_goes 21 = .ok (.iconst 3, 1) := by decide +kernel
theorem dX7_goes_22 : decode cX7_goes 22 = .ok (.iconst (-1), 1) := by decide +kernel
theorem dX7_goes_23 : decode cX7_goes 23 = .ok (.invokestatic 106, 3) := by decide +kernel
theorem dX7_goes_26 : decode cX7_goes 26 = .ok (.aload_n 0, 1) := by decide +kernel
theorem dX7_goes_27 : decode cX7_goes 27 = .ok (.iload_n 1, 1) := by decide +kernel
theorem dX7_goes_28 : decode cX7_goes 28 = .ok (.iconst 2, 1) := by decide +kernel
theorem dX7_goes_29 : decode cX7_goes 29 = .ok (.iload_n 2, 1) := by decide +kernel
theorem dX7_goes_30 : decode cX7_goes 30 = .ok (.invokestatic 106, 3) := by decide +kernel
theorem dX7_goes_33 : decode cX7_goes 33 = .ok (.iload_n 3, 1) := by decide +kernel
theorem dX7_goes_34 : decode cX7_goes 34 = .ok (.ireturn, 1) := by decide +kernel
set_option maxRecDepth 20000 in
theorem ggX7_minute_X7_of : GoodIn wsX7_minute wsX7_of := goodIn_r _ [4] rfl (by decide +kernel)
set_option maxRecDepth 20000 in
theorem gX7_minute_X7_of : GoodIn wsX7_minute (va_wsS RX7 48 yX7_of wsX7_of) := goodIn_app (goodIn_r _ [1, 2, 3] rfl (by decide +kernel)) ggX7_minute_X7_of
set_option maxRecDepth 20000 in
theorem ggX7_minute_X7_lay : GoodIn wsX7_minute wsX7_lay := goodIn_r _ [7] rfl (by decide +kernel)
set_option maxRecDepth 20000 in
theorem gX7_minute_X7_lay : GoodIn wsX7_minute (va_wsS RX7 106 yX7_lay wsX7_lay) := goodIn_app (goodIn_r _ [5, 6, 3] rfl (by decide +kernel)) ggX7_minute_X7_lay
set_option maxRecDepth 20000 in
theorem ggX7_minute_X7_goes : GoodIn wsX7_minute wsX7_goes := goodIn_r _ [10, 1, 2, 3, 4, 11, 12, 13, 5, 6, 7] rfl (by decide +kernel)
set_option maxRecDepth 20000 in
theorem gX7_minute_X7_goes : GoodIn wsX7_minute (va_wsS RX7 109 yX7_goes wsX7_goes) := goodIn_app (goodIn_r _ [8, 9, 3] rfl (by decide +kernel)) ggX7_minute_X7_goes
set_option maxRecDepth 20000 in
theorem ggX7_minute_X7_parks : GoodIn wsX7_minute wsX7_parks := goodIn_r _ [16, 1, 2, 3, 4, 17, 18, 19, 20, 21, 22, 23, 24, 25, 26, 27, 28, 29, 30, 31, 32, 33, 34, 35, 36, 37, 38, 39, 40, 41, 42, 43, 11, 12, 13, 5, 6, 7] rfl (by decide +kernel)
set_option maxRecDepth 20000 in
theorem gX7_minute_X7_parks : GoodIn wsX7_minute (va_wsS RX7 112 yX7_parks wsX7_parks) := goodIn_app (goodIn_r _ [14, 15, 3] rfl (by decide +kernel)) ggX7_minute_X7_parks
theorem dX7_minute_0 : decode cX7_minute 0 = .ok (.aload_n 0, 1) := by decide +kernel
theorem dX7_minute_1 : decode cX7_minute 1 = .ok (.iconst 1, 1) := by decide +kernel
theorem dX7_minute_2 : decode cX7_minute 2 = .ok (.dup2, 1) := by decide +kernel
theorem dX7_minute_3 : decode cX7_minute 3 = .ok (.iaload, 1) := by decide +kernel
theorem dX7_minute_4 : decode cX7_minute 4 = .ok (.iconst 1, 1) := by decide +kernel
theorem dX7_minute_5 : decode cX7_minute 5 = .ok (.iadd, 1) := by decide +kernel
theorem dX7_minute_6 : decode cX7_minute 6 = .ok (.iastore, 1) := by decide +kernel
theorem dX7_minute_7 : decode cX7_minute 7 = .ok (.iconst 0, 1) := by decide +kernel
theorem dX7_minute_8 : decode cX7_minute 8 = .ok (.istore_n 1, 1) := by decide +kernel
theorem dX7_minute_9 : decode cX7_minute 9 = .ok (.iload_n 1, 1) := by decide +kernel
theorem dX7_minute_10 : decode cX7_minute 10 = .ok (.aload_n 0, 1) := by decide +kernel
theorem dX7_minute_11 : decode cX7_minute 11 = .ok (.iconst 0, 1) := by decide +kernel
theorem dX7_minute_12 : decode cX7_minute 12 = .ok (.iaload, 1) := by decide +kernel
theorem dX7_minute_13 : decode cX7_minute 13 = .ok (.if_icmp .ge 54, 3) := by decide +kernel
theorem dX7_minute_16 : decode cX7_minute 16 = .ok (.aload_n 0, 1) := by decide +kernel
theorem dX7_minute_17 : decode cX7_minute 17 = .ok (.iload_n 1, 1) := by decide +kernel
theorem dX7_minute_18 : decode cX7_minute 18 = .ok (.iconst 2, 1) := by decide +kernel
theorem dX7_minute_19 : decode cX7_minute 19 = .ok (.invokestatic 48, 3) := by decide +kernel
theorem dX7_minute_22 : decode cX7_minute 22 = .ok (.ifCond .ne 39, 3) := by decide +kernel
theorem dX7_minute_25 : decode cX7_minute 25 = .ok (.aload_n 0, 1) := by decide +kernel
theorem dX7_minute_26 : decode cX7_minute 26 = .ok (.iload_n 1, 1) := by decide +kernel
theorem dX7_minute_27 : decode cX7_minute 27 = .ok (.iconst 4, 1) := by decide +kernel
theorem dX7_minute_28 : decode cX7_minute 28 = .ok (.aload_n 0, 1) := by decide +kernel
theorem dX7_minute_29 : decode cX7_minute 29 = .ok (.iload_n 1, 1) := by decide +kernel
theorem dX7_minute_30 : decode cX7_minute 30 = .ok (.iconst 4, 1) := by decide +kernel
theorem dX7_minute_31 : decode cX7_minute 31 = .ok (.invokestatic 48, 3) := by decide +kernel
theorem dX7_minute_34 : decode cX7_minute 34 = .ok (.iconst 1, 1) := by decide +kernel
theorem dX7_minute_35 : decode cX7_minute 35 = .ok (.iadd, 1) := by decide +kernel
theorem dX7_minute_36 : decode cX7_minute 36 = .ok (.invokestatic 106, 3) := by decide +kernel
theorem dX7_minute_39 : decode cX7_minute 39 = .ok (.aload_n 0, 1) := by decide +kernel
theorem dX7_minute_40 : decode cX7_minute 40 = .ok (.iload_n 1, 1) := by decide +kernel
theorem dX7_minute_41 : decode cX7_minute 41 = .ok (.iconst 4, 1) := by decide +kernel
theorem dX7_minute_42 : decode cX7_minute 42 = .ok (.invokestatic 48, 3) := by decide +kernel
theorem dX7_minute_45 : decode cX7_minute 45 = .ok (.aload_n 0, 1) := by decide +kernel
theorem dX7_minute_46 : decode cX7_minute 46 = .ok (.iload_n 1, 1) := by decide +kernel
theorem dX7_minute_47 : decode cX7_minute 47 = .ok (.iconst 1, 1) := by decide +kernel
theorem dX7_minute_48 : decode cX7_minute 48 = .ok (.invokestatic 48, 3) := by decide +kernel
theorem dX7_minute_51 : decode cX7_minute 51 = .ok (.if_icmp .lt 10, 3) := by decide +kernel
theorem dX7_minute_54 : decode cX7_minute 54 = .ok (.aload_n 0, 1) := by decide +kernel
theorem dX7_minute_55 : decode cX7_minute 55 = .ok (.iload_n 1, 1) := by decide +kernel
theorem dX7_minute_56 : decode cX7_minute 56 = .ok (.iconst 2, 1) := by decide +kernel
theorem dX7_minute_57 : decode cX7_minute 57 = .ok (.invokestatic 109, 3) := by decide +kernel
theorem dX7_minute_60 : decode cX7_minute 60 = .ok (.pop, 1) := by decide +kernel
theorem dX7_minute_61 : decode cX7_minute 61 = .ok (.iinc 1 1, 3) := by decide +kernel
theorem dX7_minute_64 : decode cX7_minute 64 = .ok (.goto (-55), 3) := by decide +kernel
theorem dX7_minute_67 : decode cX7_minute 67 = .ok (.iconst 0, 1) := by decide +kernel
theorem dX7_minute_68 : decode cX7_minute 68 = .ok (.istore_n 1, 1) := by decide +kernel
theorem dX7_minute_69 : decode cX7_minute 69 = .ok (.iconst 0, 1) := by decide +kernel
theorem dX7_minute_70 : decode cX7_minute 70 = .ok (.istore_n 2, 1) := by decide +kernel
theorem dX7_minute_71 : decode cX7_minute 71 = .ok (.iload_n 2, 1) := by decide +kernel
theorem dX7_minute_72 : decode cX7_minute 72 = .ok (.aload_n 0, 1) := by decide +kernel
theorem dX7_minute_73 : decode cX7_minute 73 = .ok (.iconst 0, 1) := by decide +kernel
theorem dX7_minute_74 : decode cX7_minute 74 = .ok (.iaload, 1) := by decide +kernel
theorem dX7_minute_75 : decode cX7_minute 75 = .ok (.if_icmp .ge 70, 3) := by decide +kernel
theorem dX7_minute_78 : decode cX7_minute 78 = .ok (.aload_n 0, 1) := by decide +kernel
theorem dX7_minute_79 : decode cX7_minute 79 = .ok (.iload_n 2, 1) := by decide +kernel
theorem dX7_minute_80 : decode cX7_minute 80 = .ok (.iconst 2, 1) := by decide +kernel
theorem dX7_minute_81 : decode cX7_minute 81 = .ok (.invokestatic 48, 3) := by decide +kernel
theorem dX7_minute_84 : decode cX7_minute 84 = .ok (.iconst 1, 1) := by decide +kernel
theorem dX7_minute_85 : decode cX7_minute 85 = .ok (.if_icmp .ne 54, 3) := by decide +kernel
theorem dX7_minute_88 : decode cX7_minute 88 = .ok (.aload_n 0, 1) := by decide +kernel
theorem dX7_minute_89 : decode cX7_minute 89 = .ok (.iload_n 2, 1) := by decide +kernel
theorem dX7_minute_90 : decode cX7_minute 90 = .ok (.invokestatic 112, 3) := by decide +kernel
theorem dX7_minute_93 : decode cX7_minute 93 = .ok (.ifCond .eq 9, 3) := by decide +kernel
theorem dX7_minute_96 : decode cX7_minute 96 = .ok (.iinc 1 1, 3) := by decide +kernel
theorem dX7_minute_99 : decode cX7_minute 99 = .ok (.goto 40, 3) := by decide +kernel
theorem dX7_minute_102 : decode cX7_minute 102 = .ok (.aload_n 0, 1) := by decide +kernel
theorem dX7_minute_103 : decode cX7_minute 103 = .ok (.iload_n 2, 1) := by decide +kernel
theorem dX7_minute_104 : decode cX7_minute 104 = .ok (.iconst 5, 1) := by decide +kernel
theorem dX7_minute_105 : decode cX7_minute 105 = .ok (.aload_n 0, 1) := by decide +kernel
theorem dX7_minute_106 : decode cX7_minute 106 = .ok (.iload_n 2, 1) := by decide +kernel
theorem dX7_minute_107 : decode cX7_minute 107 = .ok (.iconst 5, 1) := by decide +kernel
theorem dX7_minute_108 : decode cX7_minute 108 = .ok (.invokestatic 48, 3) := by decide +kernel
theorem dX7_minute_111 : decode cX7_minute 111 = .ok (.iconst 1, 1) := by decide +kernel
theorem dX7_minute_112 : decode cX7_minute 112 = .ok (.iadd, 1) := by decide +kernel
theorem dX7_minute_113 : decode cX7_minute 113 = .ok (.invokestatic 106, 3) := by decide +kernel
theorem dX7_minute_116 : decode cX7_minute 116 = .ok (.aload_n 0, 1) := by decide +kernel
theorem dX7_minute_117 : decode cX7_minute 117 = .ok (.iload_n 2, 1) := by decide +kernel
theorem dX7_minute_118 : decode cX7_minute 118 = .ok (.iconst 2, 1) := by decide +kernel
theorem dX7_minute_119 : decode cX7_minute 119 = .ok (.aload_n 0, 1) := by decide +kernel
theorem dX7_minute_120 : decode cX7_minute 120 = .ok (.iload_n 2, 1) := by decide +kernel
theorem dX7_minute_121 : decode cX7_minute 121 = .ok (.iconst 5, 1) := by decide +kernel
theorem dX7_minute_122 : decode cX7_minute 122 = .ok (.invokestatic 48, 3) := by decide +kernel
theorem dX7_minute_125 : decode cX7_minute 125 = .ok (.aload_n 0, 1) := by decide +kernel
theorem dX7_minute_126 : decode cX7_minute 126 = .ok (.iconst 4, 1) := by decide +kernel
theorem dX7_minute_127 : decode cX7_minute 127 = .ok (.iaload, 1) := by decide +kernel
theorem dX7_minute_128 : decode cX7_minute 128 = .ok (.if_icmp .lt 7, 3) := by decide +kernel
theorem dX7_minute_131 : decode cX7_minute 131 = .ok (.iconst 3, 1) := by decide +kernel
theorem dX7_minute_132 : decode cX7_minute 132 = .ok (.goto 4, 3) := by decide +kernel
theorem dX7_minute_135 : decode cX7_minute 135 = .ok (.iconst 1, 1) := by decide +kernel
theorem dX7_minute_136 : decode cX7_minute 136 = .ok (.invokestatic 106, 3) := by decide +kernel
theorem dX7_minute_139 : decode cX7_minute 139 = .ok (.iinc 2 1, 3) := by decide +kernel
theorem dX7_minute_142 : decode cX7_minute 142 = .ok (.goto (-71), 3) := by decide +kernel
theorem dX7_minute_145 : decode cX7_minute 145 = .ok (.iload_n 1, 1) := by decide +kernel
theorem dX7_minute_146 : decode cX7_minute 146 = .ok (.ireturn, 1) := by decide +kernel
set_option maxRecDepth 20000 in
theorem ggX7_minutesOn_X7_minute : GoodIn wsX7_minutesOn wsX7_minute := goodIn_r _ [4, 5, 6, 3, 7, 8, 9, 10, 11, 12, 13, 14, 15, 16, 17, 18, 19, 20, 21, 22, 23, 24, 25, 26, 27, 28, 29, 30, 31, 32, 33, 34, 35, 36, 37, 38, 39, 40, 41, 42, 43, 44, 45, 46] rfl (by decide +kernel)
set_option maxRecDepth 20000 in
theorem gX7_minutesOn_X7_minute : GoodIn wsX7_minutesOn (va_wsS RX7 115 yX7_minute wsX7_minute) := goodIn_app (goodIn_r _ [1, 2, 3] rfl (by decide +kernel)) ggX7_minutesOn_X7_minute
theorem dX7_minutesOn_0 : decode cX7_minutesOn 0 = .ok (.iconst 0, 1) := by decide +kernel
theorem dX7_minutesOn_1 : decode cX7_minutesOn 1 = .ok (.istore_n 2, 1) := by decide +kernel
theorem dX7_minutesOn_2 : decode cX7_minutesOn 2 = .ok (.iconst 0, 1) := by decide +kernel
theorem dX7_minutesOn_3 : decode cX7_minutesOn 3 = .ok (.istore_n 3, 1) := by decide +kernel
theorem dX7_minutesOn_4 : decode cX7_minutesOn 4 = .ok (.iload_n 3, 1) := by decide +kernel
theorem dX7_minutesOn_5 : decode cX7_minutesOn 5 = .ok (.iload_n 1, 1) := by decide +kernel
theorem dX7_minutesOn_6 : decode cX7_minutesOn 6 = .ok (.if_icmp .ge 16, 3) := by decide +kernel
theorem dX7_minutesOn_9 : decode cX7_minutesOn 9 = .ok (.iload_n 2, 1) := by decide +kernel
theorem dX7_minutesOn_10 : decode cX7_minutesOn 10 = .ok (.aload_n 0, 1) := by decide +kernel
theorem dX7_minutesOn_11 : decode cX7_minutesOn 11 = .ok (.invokestatic 115, 3) := by decide +kernel
theorem dX7_minutesOn_14 : decode cX7_minutesOn 14 = .ok (.iadd, 1) := by decide +kernel
theorem dX7_minutesOn_15 : decode cX7_minutesOn 15 = .ok (.istore_n 2, 1) := by decide +kernel
theorem dX7_minutesOn_16 : decode cX7_minutesOn 16 = .ok (.iinc 3 1, 3) := by decide +kernel
theorem dX7_minutesOn_19 : decode cX7_minutesOn 19 = .ok (.goto (-15), 3) := by decide +kernel
theorem dX7_minutesOn_22 : decode cX7_minutesOn 22 = .ok (.iload_n 2, 1) := by decide +kernel
theorem dX7_minutesOn_23 : decode cX7_minutesOn 23 = .ok (.ireturn, 1) := by decide +kernel
set_option maxRecDepth 20000 in
theorem ggX7_canHydrant_X7_isCell : GoodIn wsX7_canHydrant wsX7_isCell := goodIn_r _ [4, 5, 6, 7, 3, 8] rfl (by decide +kernel)
set_option maxRecDepth 20000 in
theorem gX7_canHydrant_X7_isCell : GoodIn wsX7_canHydrant (va_wsS RX7 118 yX7_isCell wsX7_isCell) := goodIn_app (goodIn_r _ [1, 2, 3] rfl (by decide +kernel)) ggX7_canHydrant_X7_isCell
theorem dX7_canHydrant_0 : decode cX7_canHydrant 0 = .ok (.iload_n 1, 1) := by decide +kernel
theorem dX7_canHydrant_1 : decode cX7_canHydrant 1 = .ok (.invokestatic 118, 3) := by decide +kernel
theorem dX7_canHydrant_4 : decode cX7_canHydrant 4 = .ok (.ifCond .eq 32, 3) := by decide +kernel
theorem dX7_canHydrant_7 : decode cX7_canHydrant 7 = .ok (.iload_n 2, 1) := by decide +kernel
theorem dX7_canHydrant_8 : decode cX7_canHydrant 8 = .ok (.ifCond .eq 24, 3) := by decide +kernel
theorem dX7_canHydrant_11 : decode cX7_canHydrant 11 = .ok (.aload_n 0, 1) := by decide +kernel
theorem dX7_canHydrant_12 : decode cX7_canHydrant 12 = .ok (.bipush 7, 2) := by decide +kernel
theorem dX7_canHydrant_14 : decode cX7_canHydrant 14 = .ok (.iload_n 1, 1) := by decide +kernel
theorem dX7_canHydrant_15 : decode cX7_canHydrant 15 = .ok (.iadd, 1) := by decide +kernel
theorem dX7_canHydrant_16 : decode cX7_canHydrant 16 = .ok (.iaload, 1) := by decide +kernel
theorem dX7_canHydrant_17 : decode cX7_canHydrant 17 = .ok (.iconst (-1), 1) := by decide +kernel
theorem dX7_canHydrant_18 : decode cX7_canHydrant 18 = .ok (.if_icmp .eq 14, 3) := by decide +kernel
theorem dX7_canHydrant_21 : decode cX7_canHydrant 21 = .ok (.aload_n 0, 1) := by decide +kernel
theorem dX7_canHydrant_22 : decode cX7_canHydrant 22 = .ok (.bipush 7, 2) := by decide +kernel
theorem dX7_canHydrant_24 : decode cX7_canHydrant 24 = .ok (.iload_n 1, 1) := by decide +kernel
theorem dX7_canHydrant_25 : decode cX7_canHydrant 25 = .ok (.iadd, 1) := by decide +kernel
theorem dX7_canHydrant_26 : decode cX7_canHydrant 26 = .ok (.iaload, 1) := by decide +kernel
theorem dX7_canHydrant_27 : decode cX7_canHydrant 27 = .ok (.bipush 100, 2) := by decide +kernel
theorem dX7_canHydrant_29 : decode cX7_canHydrant 29 = .ok (.if_icmp .ne 7, 3) := by decide +kernel
theorem dX7_canHydrant_32 : decode cX7_canHydrant 32 = .ok (.iconst 1, 1) := by decide +kernel
theorem dX7_canHydrant_33 : decode cX7_canHydrant 33 = .ok (.goto 4, 3) := by decide +kernel
theorem dX7_canHydrant_36 : decode cX7_canHydrant 36 = .ok (.iconst 0, 1) := by decide +kernel
theorem dX7_canHydrant_37 : decode cX7_canHydrant 37 = .ok (.ireturn, 1) := by decide +kernel
set_option maxRecDepth 20000 in
theorem ggX7_hydrantOn_X7_cellsWith : GoodIn wsX7_hydrantOn wsX7_cellsWith := goodIn_r _ [4] rfl (by decide +kernel)
set_option maxRecDepth 20000 in
theorem gX7_hydrantOn_X7_cellsWith : GoodIn wsX7_hydrantOn (va_wsS RX7 122 yX7_cellsWith wsX7_cellsWith) := goodIn_app (goodIn_r _ [1, 2, 3] rfl (by decide +kernel)) ggX7_hydrantOn_X7_cellsWith
theorem dX7_hydrantOn_0 : decode cX7_hydrantOn 0 = .ok (.aload_n 0, 1) := by decide +kernel
theorem dX7_hydrantOn_1 : decode cX7_hydrantOn 1 = .ok (.bipush 7, 2) := by decide +kernel
theorem dX7_hydrantOn_3 : decode cX7_hydrantOn 3 = .ok (.iload_n 1, 1) := by decide +kernel
theorem dX7_hydrantOn_4 : decode cX7_hydrantOn 4 = .ok (.iadd, 1) := by decide +kernel
theorem dX7_hydrantOn_5 : decode cX7_hydrantOn 5 = .ok (.iaload, 1) := by decide +kernel
theorem dX7_hydrantOn_6 : decode cX7_hydrantOn 6 = .ok (.bipush 100, 2) := by decide +kernel
theorem dX7_hydrantOn_8 : decode cX7_hydrantOn 8 = .ok (.if_icmp .ne 7, 3) := by decide +kernel
theorem dX7_hydrantOn_11 : decode cX7_hydrantOn 11 = .ok (.iconst 1, 1) := by decide +kernel
theorem dX7_hydrantOn_12 : decode cX7_hydrantOn 12 = .ok (.goto 4, 3) := by decide +kernel
theorem dX7_hydrantOn_15 : decode cX7_hydrantOn 15 = .ok (.iconst 0, 1) := by decide +kernel
theorem dX7_hydrantOn_16 : decode cX7_hydrantOn 16 = .ok (.istore_n 3, 1) := by decide +kernel
theorem dX7_hydrantOn_17 : decode cX7_hydrantOn 17 = .ok (.aload_n 0, 1) := by decide +kernel
theorem dX7_hydrantOn_18 : decode cX7_hydrantOn 18 = .ok (.bipush 7, 2) := by decide +kernel
theorem dX7_hydrantOn_20 : decode cX7_hydrantOn 20 = .ok (.iload_n 1, 1) := by decide +kernel
theorem dX7_hydrantOn_21 : decode cX7_hydrantOn 21 = .ok (.iadd, 1) := by decide +kernel
theorem dX7_hydrantOn_22 : decode cX7_hydrantOn 22 = .ok (.iload_n 2, 1) := by decide +kernel
theorem dX7_hydrantOn_23 : decode cX7_hydrantOn 23 = .ok (.ifCond .eq 8, 3) := by decide +kernel
theorem dX7_hydrantOn_26 : decode cX7_hydrantOn 26 = .ok (.bipush 100, 2) := by decide +kernel
theorem dX7_hydrantOn_28 : decode cX7_hydrantOn 28 = .ok (.goto 17, 3) := by decide +kernel
theorem dX7_hydrantOn_31 : decode cX7_hydrantOn 31 = .ok (.iload_n 3, 1) := by decide +kernel
theorem dX7_hydrantOn_32 : decode cX7_hydrantOn 32 = .ok (.ifCond .eq 7, 3) := by decide +kernel
theorem dX7_hydrantOn_35 : decode cX7_hydrantOn 35 = .ok (.iconst (-1), 1) := by decide +kernel
theorem dX7_hydrantOn_36 : decode cX7_hydrantOn 36 = .ok (.goto 9, 3) := by decide +kernel
theorem dX7_hydrantOn_39 : decode cX7_hydrantOn 39 = .ok (.aload_n 0, 1) := by decide +kernel
theorem dX7_hydrantOn_40 : decode cX7_hydrantOn 40 = .ok (.bipush 7, 2) := by decide +kernel
theorem dX7_hydrantOn_42 : decode cX7_hydrantOn 42 = .ok (.iload_n 1, 1) := by decide +kernel
theorem dX7_hydrantOn_43 : decode cX7_hydrantOn 43 = .ok (.iadd, 1) := by decide +kernel
theorem dX7_hydrantOn_44 : decode cX7_hydrantOn 44 = .ok (.iaload, 1) := by decide +kernel
theorem dX7_hydrantOn_45 : decode cX7_hydrantOn 45 = .ok (.iastore, 1) := by decide +kernel
theorem dX7_hydrantOn_46 : decode cX7_hydrantOn 46 = .ok (.aload_n 0, 1) := by decide +kernel
theorem dX7_hydrantOn_47 : decode cX7_hydrantOn 47 = .ok (.bipush 100, 2) := by decide +kernel
theorem dX7_hydrantOn_49 : decode cX7_hydrantOn 49 = .ok (.invokestatic 122, 3) := by decide +kernel
theorem dX7_hydrantOn_52 : decode cX7_hydrantOn 52 = .ok (.ireturn, 1) := by decide +kernel
set_option maxRecDepth 20000 in
theorem ggX7_comeOn_X7_lay : GoodIn wsX7_comeOn wsX7_lay := goodIn_r _ [4] rfl (by decide +kernel)
set_option maxRecDepth 20000 in
theorem gX7_comeOn_X7_lay : GoodIn wsX7_comeOn (va_wsS RX7 106 yX7_lay wsX7_lay) := goodIn_app (goodIn_r _ [1, 2, 3] rfl (by decide +kernel)) ggX7_comeOn_X7_lay
set_option maxRecDepth 20000 in
theorem ggX7_comeOn_X7_parks : GoodIn wsX7_comeOn wsX7_parks := goodIn_r _ [7, 8, 9, 3, 10, 11, 12, 13, 14, 15, 16, 17, 18, 19, 20, 21, 22, 23, 24, 25, 26, 27, 28, 29, 30, 31, 32, 33, 34, 35, 36, 37, 38, 39, 40, 1, 2, 4] rfl (by decide +kernel)
set_option maxRecDepth 20000 in
theorem gX7_comeOn_X7_parks : GoodIn wsX7_comeOn (va_wsS RX7 112 yX7_parks wsX7_parks) := goodIn_app (goodIn_r _ [5, 6, 3] rfl (by decide +kernel)) ggX7_comeOn_X7_parks
theorem dX7_comeOn_0 : decode cX7_comeOn 0 = .ok (.aload_n 0, 1) := by decide +kernel
theorem dX7_comeOn_1 : decode cX7_comeOn 1 = .ok (.iconst 0, 1) := by decide +kernel
theorem dX7_comeOn_2 : decode cX7_comeOn 2 = .ok (.iaload, 1) := by decide +kernel
theorem dX7_comeOn_3 : decode cX7_comeOn 3 = .ok (.istore_n 3, 1) := by decide +kernel
theorem dX7_comeOn_4 : decode cX7_comeOn 4 = .ok (.aload_n 0, 1) := by decide +kernel
theorem dX7_comeOn_5 : decode cX7_comeOn 5 = .ok (.iload_n 3, 1) := by decide +kernel
theorem dX7_comeOn_6 : decode cX7_comeOn 6 = .ok (.iconst 0, 1) := by decide +kernel
theorem dX7_comeOn_7 : decode cX7_comeOn 7 = .ok (.iload_n 1, 1) := by decide +kernel
theorem dX7_comeOn_8 : decode cX7_comeOn 8 = .ok (.invokestatic 106, 3) := by decide +kernel
theorem dX7_comeOn_11 : decode cX7_comeOn 11 = .ok (.aload_n 0, 1) := by decide +kernel
theorem dX7_comeOn_12 : decode cX7_comeOn 12 = .ok (.iload_n 3, 1) := by decide +kernel
theorem dX7_comeOn_13 : decode cX7_comeOn 13 = .ok (.iconst 1, 1) := by decide +kernel
theorem dX7_comeOn_14 : decode cX7_comeOn 14 = .ok (.iload_n 2, 1) := by decide +kernel
theorem dX7_comeOn_15 : decode cX7_comeOn 15 = .ok (.invokestatic 106, 3) := by decide +kernel
theorem dX7_comeOn_18 : decode cX7_comeOn 18 = .ok (.aload_n 0, 1) := by decide +kernel
theorem dX7_comeOn_19 : decode cX7_comeOn 19 = .ok (.iload_n 3, 1) := by decide +kernel
theorem dX7_comeOn_20 : decode cX7_comeOn 20 = .ok (.iconst 2, 1) := by decide +kernel
theorem dX7_comeOn_21 : decode cX7_comeOn 21 = .ok (.iconst 1, 1) := by decide +kernel
theorem dX7_comeOn_22 : decode cX7_comeOn 22 = .ok (.invokestatic 106, 3) := by decide +kernel
theorem dX7_comeOn_25 : decode cX7_comeOn 25 = .ok (.aload_n 0, 1) := by decide +kernel
theorem dX7_comeOn_26 : decode cX7_comeOn 26 = .ok (.iload_n 3, 1) := by decide +kernel
theorem dX7_comeOn_27 : decode cX7_comeOn 27 = .ok (.iconst 3, 1) := by decide +kernel
theorem dX7_comeOn_28 : decode cX7_comeOn 28 = .ok (.iconst (-1), 1) := by decide +kernel
theorem dX7_comeOn_29 : decode cX7_comeOn 29 = .ok (.invokestatic 106, 3) := by decide +kernel
theorem dX7_comeOn_32 : decode cX7_comeOn 32 = .ok (.aload_n 0, 1) := by decide +kernel
theorem dX7_comeOn_33 : decode cX7_comeOn 33 = .ok (.iload_n 3, 1) := by decide +kernel
theorem dX7_comeOn_34 : decode cX7_comeOn 34 = .ok (.iconst 4, 1) := by decide +kernel
theorem dX7_comeOn_35 : decode cX7_comeOn 35 = .ok (.iconst 0, 1) := by decide +kernel
theorem dX7_comeOn_36 : decode cX7_comeOn 36 = .ok (.invokestatic 106, 3) := by decide +kernel
theorem dX7_comeOn_39 : decode cX7_comeOn 39 = .ok (.aload_n 0, 1) := by decide +kernel
theorem dX7_comeOn_40 : decode cX7_comeOn 40 = .ok (.iload_n 3, 1) := by decide +kernel
theorem dX7_comeOn_41 : decode cX7_comeOn 41 = .ok (.iconst 5, 1) := by decide +kernel
theorem dX7_comeOn_42 : decode cX7_comeOn 42 = .ok (.iconst 0, 1) := by decide +kernel
theorem dX7_comeOn_43 : decode cX7_comeOn 43 = .ok (.invokestatic 106, 3) := by decide +kernel
theorem dX7_comeOn_46 : decode cX7_comeOn 46 = .ok (.aload_n 0, 1) := by decide +kernel
theorem dX7_comeOn_47 : decode cX7_comeOn 47 = .ok (.iconst 0, 1) := by decide +kernel
theorem dX7_comeOn_48 : decode cX7_comeOn 48 = .ok (.dup2, 1) := by decide +kernel
theorem dX7_comeOn_49 : decode cX7_comeOn 49 = .ok (.iaload, 1) := by decide +kernel
theorem dX7_comeOn_50 : decode cX7_comeOn 50 = .ok (.iconst 1, 1) := by decide +kernel
theorem dX7_comeOn_51 : decode cX7_comeOn 51 = .ok (.iadd, 1) := by decide +kernel
theorem dX7_comeOn_52 : decode cX7_comeOn 52 = .ok (.iastore, 1) := by decide +kernel
theorem dX7_comeOn_53 : decode cX7_comeOn 53 = .ok (.aload_n 0, 1) := by decide +kernel
theorem dX7_comeOn_54 : decode cX7_comeOn 54 = .ok (.iload_n 3, 1) := by decide +kernel
theorem dX7_comeOn_55 : decode cX7_comeOn 55 = .ok (.invokestatic 112, 3) := by decide +kernel
theorem dX7_comeOn_58 : decode cX7_comeOn 58 = .ok (.pop, 1) := by decide +kernel
theorem dX7_comeOn_59 : decode cX7_comeOn 59 = .ok (.iload_n 3, 1) := by decide +kernel
theorem dX7_comeOn_60 : decode cX7_comeOn 60 = .ok (.ireturn, 1) := by decide +kernel
theorem dX7_isClear_0 : decode cX7_isClear 0 = .ok (.iload_n 3, 1) := by decide +kernel
theorem dX7_isClear_1 : decode cX7_isClear 1 = .ok (.bipush 80, 2) := by decide +kernel
theorem dX7_isClear_3 : decode cX7_isClear 3 = .ok (.if_icmp .gt 7, 3) := by decide +kernel
theorem dX7_isClear_6 : decode cX7_isClear 6 = .ok (.iconst 1, 1) := by decide +kernel
theorem dX7_isClear_7 : decode cX7_isClear 7 = .ok (.goto 4, 3) := by decide +kernel
theorem dX7_isClear_10 : decode cX7_isClear 10 = .ok (.iconst 0, 1) := by decide +kernel
theorem dX7_isClear_11 : decode cX7_isClear 11 = .ok (.istore 4, 2) := by decide +kernel
theorem dX7_isClear_13 : decode cX7_isClear 13 = .ok (.iload_n 2, 1) := by decide +kernel
theorem dX7_isClear_14 : decode cX7_isClear 14 = .ok (.istore 5, 2) := by decide +kernel
theorem dX7_isClear_16 : decode cX7_isClear 16 = .ok (.iload 5, 2) := by decide +kernel
theorem dX7_isClear_18 : decode cX7_isClear 18 = .ok (.iload_n 3, 1) := by decide +kernel
theorem dX7_isClear_19 : decode cX7_isClear 19 = .ok (.if_icmp .ge 43, 3) := by decide +kernel
theorem dX7_isClear_22 : decode cX7_isClear 22 = .ok (.iload 4, 2) := by decide +kernel
theorem dX7_isClear_24 : decode cX7_isClear 24 = .ok (.ifCond .eq 38, 3) := by decide +kernel
theorem dX7_isClear_27 : decode cX7_isClear 27 = .ok (.aload_n 0, 1) := by decide +kernel
theorem dX7_isClear_28 : decode cX7_isClear 28 = .ok (.bipush 7, 2) := by decide +kernel
theorem dX7_isClear_30 : decode cX7_isClear 30 = .ok (.iload 5, 2) := by decide +kernel
theorem dX7_isClear_32 : decode cX7_isClear 32 = .ok (.iadd, 1) := by decide +kernel
theorem dX7_isClear_33 : decode cX7_isClear 33 = .ok (.iaload, 1) := by decide +kernel
theorem dX7_isClear_34 : decode cX7_isClear 34 = .ok (.iconst (-1), 1) := by decide +kernel
theorem dX7_isClear_35 : decode cX7_isClear 35 = .ok (.if_icmp .eq 14, 3) := by decide +kernel
theorem dX7_isClear_38 : decode cX7_isClear 38 = .ok (.aload_n 0, 1) := by decide +kernel
theorem dX7_isClear_39 : decode cX7_isClear 39 = .ok (.bipush 7, 2) := by decide +kernel
theorem dX7_isClear_41 : decode cX7_isClear 41 = .ok (.iload 5, 2) := by decide +kernel
theorem dX7_isClear_43 : decode cX7_isClear 43 = .ok (.iadd, 1) := by decide +kernel
theorem dX7_isClear_44 : decode cX7_isClear 44 = .ok (.iaload, 1) := by decide +kernel
theorem dX7_isClear_45 : decode cX7_isClear 45 = .ok (.iload_n 1, 1) := by decide +kernel
theorem dX7_isClear_46 : decode cX7_isClear 46 = .ok (.if_icmp .ne 7, 3) := by decide +kernel
theorem dX7_isClear_49 : decode cX7_isClear 49 = .ok (.iconst 1, 1) := by decide +kernel
theorem dX7_isClear_50 : decode cX7_isClear 50 = .ok (.goto 4, 3) := by decide +kernel
theorem dX7_isClear_53 : decode cX7_isClear 53 = .ok (.iconst 0, 1) := by decide +kernel
theorem dX7_isClear_54 : decode cX7_isClear 54 = .ok (.istore 4, 2) := by decide +kernel
theorem dX7_isClear_56 : decode cX7_isClear 56 = .ok (.iinc 5 1, 3) := by decide +kernel
theorem dX7_isClear_59 : decode cX7_isClear 59 = .ok (.goto (-43), 3) := by decide +kernel
theorem dX7_isClear_62 : decode cX7_isClear 62 = .ok (.iload 4, 2) := by decide +kernel
theorem dX7_isClear_64 : decode cX7_isClear 64 = .ok (.ireturn, 1) := by decide +kernel
set_option maxRecDepth 20000 in
theorem ggX7_canMove_X7_of : GoodIn wsX7_canMove wsX7_of := goodIn_r _ [4] rfl (by decide +kernel)
set_option maxRecDepth 20000 in
theorem gX7_canMove_X7_of : GoodIn wsX7_canMove (va_wsS RX7 48 yX7_of wsX7_of) := goodIn_app (goodIn_r _ [1, 2, 3] rfl (by decide +kernel)) ggX7_canMove_X7_of
set_option maxRecDepth 20000 in
theorem ggX7_canMove_X7_isParked : GoodIn wsX7_canMove wsX7_isParked := goodIn_r _ [7, 8, 9, 3, 10, 11, 12, 13, 1, 2, 4] rfl (by decide +kernel)
set_option maxRecDepth 20000 in
theorem gX7_canMove_X7_isParked : GoodIn wsX7_canMove (va_wsS RX7 125 yX7_isParked wsX7_isParked) := goodIn_app (goodIn_r _ [5, 6, 3] rfl (by decide +kernel)) ggX7_canMove_X7_isParked
set_option maxRecDepth 20000 in
theorem ggX7_canMove_X7_isClear : GoodIn wsX7_canMove wsX7_isClear := goodIn_r _ [16] rfl (by decide +kernel)
set_option maxRecDepth 20000 in
theorem gX7_canMove_X7_isClear : GoodIn wsX7_canMove (va_wsS RX7 128 yX7_isClear wsX7_isClear) := goodIn_app (goodIn_r _ [14, 15, 3] rfl (by decide +kernel)) ggX7_canMove_X7_isClear
theorem dX7_canMove_0 : decode cX7_canMove 0 = .ok (.aload_n 0, 1) := by decide +kernel
theorem dX7_canMove_1 : decode cX7_canMove 1 = .ok (.iload_n 1, 1) := by decide +kernel
theorem dX7_canMove_2 : decode cX7_canMove 2 = .ok (.iconst 0, 1) := by decide +kernel
theorem dX7_canMove_3 : decode cX7_canMove 3 = .ok (.invokestatic 48, 3) := by decide +kernel
theorem dX7_canMove_6 : decode cX7_canMove 6 = .ok (.istore_n 3, 1) := by decide +kernel
theorem dX7_canMove_7 : decode cX7_canMove 7 = .ok (.aload_n 0, 1) := by decide +kernel
theorem dX7_canMove_8 : decode cX7_canMove 8 = .ok (.iload_n 1, 1) := by decide +kernel
theorem dX7_canMove_9 : decode cX7_canMove 9 = .ok (.iconst 3, 1) := by decide +kernel
theorem dX7_canMove_10 : decode cX7_canMove 10 = .ok (.invokestatic 48, 3) := by decide +kernel
theorem dX7_canMove_13 : decode cX7_canMove 13 = .ok (.istore 4, 2) := by decide +kernel
theorem dX7_canMove_15 : decode cX7_canMove 15 = .ok (.aload_n 0, 1) := by decide +kernel
theorem dX7_canMove_16 : decode cX7_canMove 16 = .ok (.iload_n 1, 1) := by decide +kernel
theorem dX7_canMove_17 : decode cX7_canMove 17 = .ok (.invokestatic 125, 3) := by decide +kernel
theorem dX7_canMove_20 : decode cX7_canMove 20 = .ok (.ifCond .eq 41, 3) := by decide +kernel
theorem dX7_canMove_23 : decode cX7_canMove 23 = .ok (.aload_n 0, 1) := by decide +kernel
theorem dX7_canMove_24 : decode cX7_canMove 24 = .ok (.iload_n 1, 1) := by decide +kernel
theorem dX7_canMove_25 : decode cX7_canMove 25 = .ok (.iload_n 2, 1) := by decide +kernel
theorem dX7_canMove_26 : decode cX7_canMove 26 = .ok (.iload 4, 2) := by decide +kernel
theorem dX7_canMove_28 : decode cX7_canMove 28 = .ok (.if_icmp .ge 7, 3) := by decide +kernel
theorem dX7_canMove_31 : decode cX7_canMove 31 = .ok (.iload_n 2, 1) := by decide +kernel
theorem dX7_canMove_32 : decode cX7_canMove 32 = .ok (.goto 5, 3) := by decide +kernel
theorem dX7_canMove_35 : decode cX7_canMove 35 = .ok (.iload 4, 2) := by decide +kernel
theorem dX7_canMove_37 : decode cX7_canMove 37 = .ok (.iload_n 2, 1) := by decide +kernel
theorem dX7_canMove_38 : decode cX7_canMove 38 = .ok (.iload 4, 2) := by decide +kernel
theorem dX7_canMove_40 : decode cX7_canMove 40 = .ok (.if_icmp .ge 8, 3) := by decide +kernel
theorem dX7_canMove_43 : decode cX7_canMove 43 = .ok (.iload 4, 2) := by decide +kernel
theorem dX7_canMove_45 : decode cX7_canMove 45 = .ok (.goto 4, 3) := by decide +kernel
theorem dX7_canMove_48 : decode cX7_canMove 48 = .ok (.iload_n 2, 1) := by decide +kernel
theorem dX7_canMove_49 : decode cX7_canMove 49 = .ok (.iload_n 3, 1) := by decide +kernel
theorem dX7_canMove_50 : decode cX7_canMove 50 = .ok (.iadd, 1) := by decide +kernel
theorem dX7_canMove_51 : decode cX7_canMove 51 = .ok (.invokestatic 128, 3) := by decide +kernel
theorem dX7_canMove_54 : decode cX7_canMove 54 = .ok (.ifCond .eq 7, 3) := by decide +kernel
theorem dX7_canMove_57 : decode cX7_canMove 57 = .ok (.iconst 1, 1) := by decide +kernel
theorem dX7_canMove_58 : decode cX7_canMove 58 = .ok (.goto 4, 3) := by decide +kernel
theorem dX7_canMove_61 : decode cX7_canMove 61 = .ok (.iconst 0, 1) := by decide +kernel
theorem dX7_canMove_62 : decode cX7_canMove 62 = .ok (.ireturn, 1) := by decide +kernel
set_option maxRecDepth 20000 in
theorem ggX7_moveOn_X7_of : GoodIn wsX7_moveOn wsX7_of := goodIn_r _ [4] rfl (by decide +kernel)
set_option maxRecDepth 20000 in
theorem gX7_moveOn_X7_of : GoodIn wsX7_moveOn (va_wsS RX7 48 yX7_of wsX7_of) := goodIn_app (goodIn_r _ [1, 2, 3] rfl (by decide +kernel)) ggX7_moveOn_X7_of
set_option maxRecDepth 20000 in
theorem ggX7_moveOn_X7_fill : GoodIn wsX7_moveOn wsX7_fill := goodIn_r _ [7] rfl (by decide +kernel)
set_option maxRecDepth 20000 in
theorem gX7_moveOn_X7_fill : GoodIn wsX7_moveOn (va_wsS RX7 102 yX7_fill wsX7_fill) := goodIn_app (goodIn_r _ [5, 6, 3] rfl (by decide +kernel)) ggX7_moveOn_X7_fill
set_option maxRecDepth 20000 in
theorem ggX7_moveOn_X7_lay : GoodIn wsX7_moveOn wsX7_lay := goodIn_r _ [10] rfl (by decide +kernel)
set_option maxRecDepth 20000 in
theorem gX7_moveOn_X7_lay : GoodIn wsX7_moveOn (va_wsS RX7 106 yX7_lay wsX7_lay) := goodIn_app (goodIn_r _ [8, 9, 3] rfl (by decide +kernel)) ggX7_moveOn_X7_lay
theorem dX7_moveOn_0 : decode cX7_moveOn 0 = .ok (.aload_n 0, 1) := by decide +kernel
theorem dX7_moveOn_1 : decode cX7_moveOn 1 = .ok (.iload_n 1, 1) := by decide +kernel
theorem dX7_moveOn_2 : decode cX7_moveOn 2 = .ok (.iconst 3, 1) := by decide +kernel
theorem dX7_moveOn_3 : decode cX7_moveOn 3 = .ok (.invokestatic 48, 3) := by decide +kernel
theorem dX7_moveOn_6 : decode cX7_moveOn 6 = .ok (.istore_n 3, 1) := by decide +kernel
theorem dX7_moveOn_7 : decode cX7_moveOn 7 = .ok (.aload_n 0, 1) := by decide +kernel
theorem dX7_moveOn_8 : decode cX7_moveOn 8 = .ok (.iload_n 3, 1) := by decide +kernel
theorem dX7_moveOn_9 : decode cX7_moveOn 9 = .ok (.aload_n 0, 1) := by decide +kernel
theorem dX7_moveOn_10 : decode cX7_moveOn 10 = .ok (.iload_n 1, 1) := by decide +kernel
theorem dX7_moveOn_11 : decode cX7_moveOn 11 = .ok (.iconst 0, 1) := by decide +kernel
theorem dX7_moveOn_12 : decode cX7_moveOn 12 = .ok (.invokestatic 48, 3) := by decide +kernel
theorem dX7_moveOn_15 : decode cX7_moveOn 15 = .ok (.iconst (-1), 1) := by decide +kernel
theorem dX7_moveOn_16 : decode cX7_moveOn 16 = .ok (.invokestatic 102, 3) := by decide +kernel
theorem dX7_moveOn_19 : decode cX7_moveOn 19 = .ok (.aload_n 0, 1) := by decide +kernel
theorem dX7_moveOn_20 : decode cX7_moveOn 20 = .ok (.iload_n 2, 1) := by decide +kernel
theorem dX7_moveOn_21 : decode cX7_moveOn 21 = .ok (.aload_n 0, 1) := by decide +kernel
theorem dX7_moveOn_22 : decode cX7_moveOn 22 = .ok (.iload_n 1, 1) := by decide +kernel
theorem dX7_moveOn_23 : decode cX7_moveOn 23 = .ok (.iconst 0, 1) := by decide +kernel
theorem dX7_moveOn_24 : decode cX7_moveOn 24 = .ok (.invokestatic 48, 3) := by decide +kernel
theorem dX7_moveOn_27 : decode cX7_moveOn 27 = .ok (.iload_n 1, 1) := by decide +kernel
theorem dX7_moveOn_28 : decode cX7_moveOn 28 = .ok (.invokestatic 102, 3) := by decide +kernel
theorem dX7_moveOn_31 : decode cX7_moveOn 31 = .ok (.aload_n 0, 1) := by decide +kernel
theorem dX7_moveOn_32 : decode cX7_moveOn 32 = .ok (.iload_n 1, 1) := by decide +kernel
theorem dX7_moveOn_33 : decode cX7_moveOn 33 = .ok (.iconst 3, 1) := by decide +kernel
theorem dX7_moveOn_34 : decode cX7_moveOn 34 = .ok (.iload_n 2, 1) := by decide +kernel
theorem dX7_moveOn_35 : decode cX7_moveOn 35 = .ok (.invokestatic 106, 3) := by decide +kernel
theorem dX7_moveOn_38 : decode cX7_moveOn 38 = .ok (.iload_n 2, 1) := by decide +kernel
theorem dX7_moveOn_39 : decode cX7_moveOn 39 = .ok (.iload_n 3, 1) := by decide +kernel
theorem dX7_moveOn_40 : decode cX7_moveOn 40 = .ok (.if_icmp .ge 9, 3) := by decide +kernel
theorem dX7_moveOn_43 : decode cX7_moveOn 43 = .ok (.iload_n 3, 1) := by decide +kernel
theorem dX7_moveOn_44 : decode cX7_moveOn 44 = .ok (.iload_n 2, 1) := by decide +kernel
theorem dX7_moveOn_45 : decode cX7_moveOn 45 = .ok (.isub, 1) := by decide +kernel
theorem dX7_moveOn_46 : decode cX7_moveOn 46 = .ok (.goto 6, 3) := by decide +kernel
theorem dX7_moveOn_49 : decode cX7_moveOn 49 = .ok (.iload_n 2, 1) := by decide +kernel
theorem dX7_moveOn_50 : decode cX7_moveOn 50 = .ok (.iload_n 3, 1) := by decide +kernel
theorem dX7_moveOn_51 : decode cX7_moveOn 51 = .ok (.isub, 1) := by decide +kernel
theorem dX7_moveOn_52 : decode cX7_moveOn 52 = .ok (.ireturn, 1) := by decide +kernel
theorem dX7_change_0 : decode cX7_change 0 = .ok (.aload_n 0, 1) := by decide +kernel
theorem dX7_change_1 : decode cX7_change 1 = .ok (.iconst 2, 1) := by decide +kernel
theorem dX7_change_2 : decode cX7_change 2 = .ok (.iload_n 1, 1) := by decide +kernel
theorem dX7_change_3 : decode cX7_change 3 = .ok (.iadd, 1) := by decide +kernel
theorem dX7_change_4 : decode cX7_change 4 = .ok (.iaload, 1) := by decide +kernel
theorem dX7_change_5 : decode cX7_change 5 = .ok (.istore_n 3, 1) := by decide +kernel
theorem dX7_change_6 : decode cX7_change 6 = .ok (.aload_n 0, 1) := by decide +kernel
theorem dX7_change_7 : decode cX7_change 7 = .ok (.iconst 2, 1) := by decide +kernel
theorem dX7_change_8 : decode cX7_change 8 = .ok (.iload_n 1, 1) := by decide +kernel
theorem dX7_change_9 : decode cX7_change 9 = .ok (.iadd, 1) := by decide +kernel
theorem dX7_change_10 : decode cX7_change 10 = .ok (.iload_n 2, 1) := by decide +kernel
theorem dX7_change_11 : decode cX7_change 11 = .ok (.iastore, 1) := by decide +kernel
theorem dX7_change_12 : decode cX7_change 12 = .ok (.iload_n 3, 1) := by decide +kernel
theorem dX7_change_13 : decode cX7_change 13 = .ok (.ireturn, 1) := by decide +kernel
set_option maxRecDepth 20000 in
theorem ggX7_append_X7_in : GoodIn wsX7_append wsX7_in := goodIn_r _ [7] rfl (by decide +kernel)
set_option maxRecDepth 20000 in
theorem gX7_append_X7_in : GoodIn wsX7_append (va_wsS RX7 40 yX7_in wsX7_in) := goodIn_app (goodIn_r _ [4, 5, 6] rfl (by decide +kernel)) ggX7_append_X7_in
set_option maxRecDepth 20000 in
theorem ggX7_append_X7_refused : GoodIn wsX7_append wsX7_refused := goodIn_r _ [11, 12, 13, 14, 15, 16, 17, 18, 19, 20, 21, 22, 23, 24] rfl (by decide +kernel)
set_option maxRecDepth 20000 in
theorem gX7_append_X7_refused : GoodIn wsX7_append (wsV RX7 137 RX7 yX7_refused wsX7_refused) := goodIn_app (goodIn_r _ [8, 9, 10, 6] rfl (by decide +kernel)) ggX7_append_X7_refused
theorem dX7_append_0 : decode cX7_append 0 = .ok (.aload_n 0, 1) := by decide +kernel
theorem dX7_append_1 : decode cX7_append 1 = .ok (.iload_n 1, 1) := by decide +kernel
theorem dX7_append_2 : decode cX7_append 2 = .ok (.i2l, 1) := by decide +kernel
theorem dX7_append_3 : decode cX7_append 3 = .ok (.lconst 0, 1) := by decide +kernel
theorem dX7_append_4 : decode cX7_append 4 = .ok (.ldc2_w 132, 3) := by decide +kernel
theorem dX7_append_7 : decode cX7_append 7 = .ok (.invokestatic 40, 3) := by decide +kernel
theorem dX7_append_10 : decode cX7_append 10 = .ok (.ifCond .ne 7, 3) := by decide +kernel
theorem dX7_append_13 : decode cX7_append 13 = .ok (.iconst 1, 1) := by decide +kernel
theorem dX7_append_14 : decode cX7_append 14 = .ok (.goto 17, 3) := by decide +kernel
theorem dX7_append_17 : decode cX7_append 17 = .ok (.aload_n 0, 1) := by decide +kernel
theorem dX7_append_18 : decode cX7_append 18 = .ok (.getfield 134, 3) := by decide +kernel
theorem dX7_append_21 : decode cX7_append 21 = .ok (.bipush 120, 2) := by decide +kernel
theorem dX7_append_23 : decode cX7_append 23 = .ok (.if_icmp .ne 7, 3) := by decide +kernel
theorem dX7_append_26 : decode cX7_append 26 = .ok (.iconst 2, 1) := by decide +kernel
theorem dX7_append_27 : decode cX7_append 27 = .ok (.goto 4, 3) := by decide +kernel
theorem dX7_append_30 : decode cX7_append 30 = .ok (.iconst 0, 1) := by decide +kernel
theorem dX7_append_31 : decode cX7_append 31 = .ok (.invokevirtual 137, 3) := by decide +kernel
theorem dX7_append_34 : decode cX7_append 34 = .ok (.ifCond .eq 5, 3) := by decide +kernel
theorem dX7_append_37 : decode cX7_append 37 = .ok (.iconst 0, 1) := by decide +kernel
theorem dX7_append_38 : decode cX7_append 38 = .ok (.ireturn, 1) := by decide +kernel
theorem dX7_append_39 : decode cX7_append 39 = .ok (.aload_n 0, 1) := by decide +kernel
theorem dX7_append_40 : decode cX7_append 40 = .ok (.getfield 7, 3) := by decide +kernel
theorem dX7_append_43 : decode cX7_append 43 = .ok (.aload_n 0, 1) := by decide +kernel
theorem dX7_append_44 : decode cX7_append 44 = .ok (.getfield 134, 3) := by decide +kernel
theorem dX7_append_47 : decode cX7_append 47 = .ok (.iload_n 1, 1) := by decide +kernel
theorem dX7_append_48 : decode cX7_append 48 = .ok (.iastore, 1) := by decide +kernel
theorem dX7_append_49 : decode cX7_append 49 = .ok (.aload_n 0, 1) := by decide +kernel
theorem dX7_append_50 : decode cX7_append 50 = .ok (.dup, 1) := by decide +kernel
theorem dX7_append_51 : decode cX7_append 51 = .ok (.getfield 134, 3) := by decide +kernel
theorem dX7_append_54 : decode cX7_append 54 = .ok (.iconst 1, 1) := by decide +kernel
theorem dX7_append_55 : decode cX7_append 55 = .ok (.iadd, 1) := by decide +kernel
theorem dX7_append_56 : decode cX7_append 56 = .ok (.putfield 134, 3) := by decide +kernel
theorem dX7_append_59 : decode cX7_append 59 = .ok (.aload_n 0, 1) := by decide +kernel
theorem dX7_append_60 : decode cX7_append 60 = .ok (.getfield 134, 3) := by decide +kernel
theorem dX7_append_63 : decode cX7_append 63 = .ok (.ireturn, 1) := by decide +kernel
theorem dX7_clearText_0 : decode cX7_clearText 0 = .ok (.aload_n 0, 1) := by decide +kernel
theorem dX7_clearText_1 : decode cX7_clearText 1 = .ok (.iconst 0, 1) := by decide +kernel
theorem dX7_clearText_2 : decode cX7_clearText 2 = .ok (.putfield 36, 3) := by decide +kernel
theorem dX7_clearText_5 : decode cX7_clearText 5 = .ok (.aload_n 0, 1) := by decide +kernel
theorem dX7_clearText_6 : decode cX7_clearText 6 = .ok (.getfield 134, 3) := by decide +kernel
theorem dX7_clearText_9 : decode cX7_clearText 9 = .ok (.istore_n 1, 1) := by decide +kernel
theorem dX7_clearText_10 : decode cX7_clearText 10 = .ok (.aload_n 0, 1) := by decide +kernel
theorem dX7_clearText_11 : decode cX7_clearText 11 = .ok (.iconst 0, 1) := by decide +kernel
theorem dX7_clearText_12 : decode cX7_clearText 12 = .ok (.putfield 134, 3) := by decide +kernel
theorem dX7_clearText_15 : decode cX7_clearText 15 = .ok (.iload_n 1, 1) := by decide +kernel
theorem dX7_clearText_16 : decode cX7_clearText 16 = .ok (.ireturn, 1) := by decide +kernel
set_option maxRecDepth 20000 in
theorem ggX7_figures_X7_in : GoodIn wsX7_figures wsX7_in := goodIn_r _ [8] rfl (by decide +kernel)
set_option maxRecDepth 20000 in
theorem gX7_figures_X7_in : GoodIn wsX7_figures (va_wsS RX7 40 yX7_in wsX7_in) := goodIn_app (goodIn_r _ [5, 6, 7] rfl (by decide +kernel)) ggX7_figures_X7_in
theorem dX7_figures_0 : decode cX7_figures 0 = .ok (.iconst 0, 1) := by decide +kernel
theorem dX7_figures_1 : decode cX7_figures 1 = .ok (.istore 5, 2) := by decide +kernel
theorem dX7_figures_3 : decode cX7_figures 3 = .ok (.iload_n 2, 1) := by decide +kernel
theorem dX7_figures_4 : decode cX7_figures 4 = .ok (.iconst 2, 1) := by decide +kernel
theorem dX7_figures_5 : decode cX7_figures 5 = .ok (.if_icmp .ne 8, 3) := by decide +kernel
theorem dX7_figures_8 : decode cX7_figures 8 = .ok (.bipush 10, 2) := by decide +kernel
theorem dX7_figures_10 : decode cX7_figures 10 = .ok (.goto 4, 3) := by decide +kernel
theorem dX7_figures_13 : decode cX7_figures 13 = .ok (.iconst 1, 1) := by decide +kernel
theorem dX7_figures_14 : decode cX7_figures 14 = .ok (.istore 6, 2) := by decide +kernel
theorem dX7_figures_16 : decode cX7_figures 16 = .ok (.iload 6, 2) := by decide +kernel
theorem dX7_figures_18 : decode cX7_figures 18 = .ok (.ifCond .le 104, 3) := by decide +kernel
theorem dX7_figures_21 : decode cX7_figures 21 = .ok (.iload_n 1, 1) := by decide +kernel
theorem dX7_figures_22 : decode cX7_figures 22 = .ok (.iconst (-1), 1) := by decide +kernel
theorem dX7_figures_23 : decode cX7_figures 23 = .ok (.if_icmp .eq 99, 3) := by decide +kernel
theorem dX7_figures_26 : decode cX7_figures 26 = .ok (.aload_n 0, 1) := by decide +kernel
theorem dX7_figures_27 : decode cX7_figures 27 = .ok (.getfield 140, 3) := by decide +kernel
theorem dX7_figures_30 : decode cX7_figures 30 = .ok (.aload_n 0, 1) := by decide +kernel
theorem dX7_figures_31 : decode cX7_figures 31 = .ok (.getfield 134, 3) := by decide +kernel
theorem dX7_figures_34 : decode cX7_figures 34 = .ok (.if_icmp .ge 18, 3) := by decide +kernel
theorem dX7_figures_37 : decode cX7_figures 37 = .ok (.aload_n 0, 1) := by decide +kernel
theorem dX7_figures_38 : decode cX7_figures 38 = .ok (.getfield 7, 3) := by decide +kernel
theorem dX7_figures_41 : decode cX7_figures 41 = .ok (.aload_n 0, 1) := by decide +kernel
theorem dX7_figures_42 : decode cX7_figures 42 = .ok (.getfield 140, 3) := by decide +kernel
theorem dX7_figures_45 : decode cX7_figures 45 = .ok (.iaload, 1) := by decide +kernel
theorem dX7_figures_46 : decode cX7_figures 46 = .ok (.bipush 48, 2) := by decide +kernel
theorem dX7_figures_48 : decode cX7_figures 48 = .ok (.isub, 1) := by decide +kernel
theorem dX7_figures_49 : decode cX7_figures 49 = .ok (.goto 4, 3) := by decide +kernel
theorem dX7_figures_52 : decode cX7_figures 52 = .ok (.iconst (-1), 1) := by decide +kernel
theorem dX7_figures_53 : decode cX7_figures 53 = .ok (.istore 7, 2) := by decide +kernel
theorem dX7_figures_55 : decode cX7_figures 55 = .ok (.iload 5, 2) := by decide +kernel
theorem dX7_figures_57 : decode cX7_figures 57 = .ok (.iload 7, 2) := by decide +kernel
theorem dX7_figures_59 : decode cX7_figures 59 = .ok (.iload 6, 2) := by decide +kernel
theorem dX7_figures_61 : decode cX7_figures 61 = .ok (.imul, 1) := by decide +kernel
theorem dX7_figures_62 : decode cX7_figures 62 = .ok (.iadd, 1) := by decide +kernel
theorem dX7_figures_63 : decode cX7_figures 63 = .ok (.istore 8, 2) := by decide +kernel
theorem dX7_figures_65 : decode cX7_figures 65 = .ok (.iload 7, 2) := by decide +kernel
theorem dX7_figures_67 : decode cX7_figures 67 = .ok (.i2l, 1) := by decide +kernel
theorem dX7_figures_68 : decode cX7_figures 68 = .ok (.lconst 0, 1) := by decide +kernel
theorem dX7_figures_69 : decode cX7_figures 69 = .ok (.ldc2_w 143, 3) := by decide +kernel
theorem dX7_figures_72 : decode cX7_figures 72 = .ok (.invokestatic 40, 3) := by decide +kernel
theorem dX7_figures_75 : decode cX7_figures 75 = .ok (.ifCond .eq 21, 3) := by decide +kernel
theorem dX7_figures_78 : decode cX7_figures 78 = .ok (.iload 8, 2) := by decide +kernel
theorem dX7_figures_80 : decode cX7_figures 80 = .ok (.iload 4, 2) := by decide +kernel
theorem dX7_figures_82 : decode cX7_figures 82 = .ok (.if_icmp .gt 14, 3) := by decide +kernel
theorem dX7_figures_85 : decode cX7_figures 85 = .ok (.iload 8, 2) := by decide +kernel
theorem dX7_figures_87 : decode cX7_figures 87 = .ok (.iload 6, 2) := by decide +kernel
theorem dX7_figures_89 : decode cX7_figures 89 = .ok (.iadd, 1) := by decide +kernel
theorem dX7_figures_90 : decode cX7_figures 90 = .ok (.iconst 1, 1) := by decide +kernel
theorem dX7_figures_91 : decode cX7_figures 91 = .ok (.isub, 1) := by decide +kernel
theorem dX7_figures_92 : decode cX7_figures 92 = .ok (.iload_n 3, 1) := by decide +kernel
theorem dX7_figures_93 : decode cX7_figures 93 = .ok (.if_icmp .ge 5, 3) := by decide +kernel
theorem dX7_figures_96 : decode cX7_figures 96 = .ok (.iconst (-1), 1) := by decide +kernel
theorem dX7_figures_97 : decode cX7_figures 97 = .ok (.ireturn, 1) := by decide +kernel
theorem dX7_figures_98 : decode cX7_figures 98 = .ok (.iload 8, 2) := by decide +kernel
theorem dX7_figures_100 : decode cX7_figures 100 = .ok (.istore 5, 2) := by decide +kernel
theorem dX7_figures_102 : decode cX7_figures 102 = .ok (.aload_n 0, 1) := by decide +kernel
theorem dX7_figures_103 : decode cX7_figures 103 = .ok (.dup, 1) := by decide +kernel
theorem dX7_figures_104 : decode cX7_figures 104 = .ok (.getfield 140, 3) := by decide +kernel
theorem dX7_figures_107 : decode cX7_figures 107 = .ok (.iconst 1, 1) := by decide +kernel
theorem dX7_figures_108 : decode cX7_figures 108 = .ok (.iadd, 1) := by decide +kernel
theorem dX7_figures_109 : decode cX7_figures 109 = .ok (.putfield 140, 3) := by decide +kernel
theorem dX7_figures_112 : decode cX7_figures 112 = .ok (.iload 6, 2) := by decide +kernel
theorem dX7_figures_114 : decode cX7_figures 114 = .ok (.bipush 10, 2) := by decide +kernel
theorem dX7_figures_116 : decode cX7_figures 116 = .ok (.idiv, 1) := by decide +kernel
theorem dX7_figures_117 : decode cX7_figures 117 = .ok (.istore 6, 2) := by decide +kernel
theorem dX7_figures_119 : decode cX7_figures 119 = .ok (.goto (-103), 3) := by decide +kernel
theorem dX7_figures_122 : decode cX7_figures 122 = .ok (.iload_n 1, 1) := by decide +kernel
theorem dX7_figures_123 : decode cX7_figures 123 = .ok (.iconst (-1), 1) := by decide +kernel
theorem dX7_figures_124 : decode cX7_figures 124 = .ok (.if_icmp .ne 7, 3) := by decide +kernel
theorem dX7_figures_127 : decode cX7_figures 127 = .ok (.iconst (-1), 1) := by decide +kernel
theorem dX7_figures_128 : decode cX7_figures 128 = .ok (.goto 5, 3) := by decide +kernel
theorem dX7_figures_131 : decode cX7_figures 131 = .ok (.iload 5, 2) := by decide +kernel
theorem dX7_figures_133 : decode cX7_figures 133 = .ok (.ireturn, 1) := by decide +kernel
theorem dX7_done_0 : decode cX7_done 0 = .ok (.aload_n 0, 1) := by decide +kernel
theorem dX7_done_1 : decode cX7_done 1 = .ok (.dup, 1) := by decide +kernel
theorem dX7_done_2 : decode cX7_done 2 = .ok (.getfield 145, 3) := by decide +kernel
theorem dX7_done_5 : decode cX7_done 5 = .ok (.iload_n 1, 1) := by decide +kernel
theorem dX7_done_6 : decode cX7_done 6 = .ok (.ifCond .eq 7, 3) := by decide +kernel
theorem dX7_done_9 : decode cX7_done 9 = .ok (.iconst 0, 1) := by decide +kernel
theorem dX7_done_10 : decode cX7_done 10 = .ok (.goto 4, 3) := by decide +kernel
theorem dX7_done_13 : decode cX7_done 13 = .ok (.iconst 1, 1) := by decide +kernel
theorem dX7_done_14 : decode cX7_done 14 = .ok (.iadd, 1) := by decide +kernel
theorem dX7_done_15 : decode cX7_done 15 = .ok (.putfield 145, 3) := by decide +kernel
theorem dX7_done_18 : decode cX7_done 18 = .ok (.iconst 1, 1) := by decide +kernel
theorem dX7_done_19 : decode cX7_done 19 = .ok (.ireturn, 1) := by decide +kernel
set_option maxRecDepth 20000 in
theorem ggX7_carSign_X7_figures : GoodIn wsX7_carSign wsX7_figures := goodIn_r _ [5, 6, 7, 8, 9, 10, 11, 4, 12, 13, 14, 15, 16, 17, 18, 19, 20, 21, 22, 23, 24] rfl (by decide +kernel)
set_option maxRecDepth 20000 in
theorem gX7_carSign_X7_figures : GoodIn wsX7_carSign (wsV RX7 148 RX7 yX7_figures wsX7_figures) := goodIn_app (goodIn_r _ [1, 2, 3, 4] rfl (by decide +kernel)) ggX7_carSign_X7_figures
theorem dX7_carSign_0 : decode cX7_carSign 0 = .ok (.aload_n 0, 1) := by decide +kernel
theorem dX7_carSign_1 : decode cX7_carSign 1 = .ok (.iconst 0, 1) := by decide +kernel
theorem dX7_carSign_2 : decode cX7_carSign 2 = .ok (.iconst 2, 1) := by decide +kernel
theorem dX7_carSign_3 : decode cX7_carSign 3 = .ok (.iconst 0, 1) := by decide +kernel
theorem dX7_carSign_4 : decode cX7_carSign 4 = .ok (.bipush 39, 2) := by decide +kernel
theorem dX7_carSign_6 : decode cX7_carSign 6 = .ok (.invokevirtual 148, 3) := by decide +kernel
theorem dX7_carSign_9 : decode cX7_carSign 9 = .ok (.ireturn, 1) := by decide +kernel
set_option maxRecDepth 20000 in
theorem ggX7_cellSign_X7_figures : GoodIn wsX7_cellSign wsX7_figures := goodIn_r _ [5, 6, 7, 8, 9, 10, 11, 4, 12, 13, 14, 15, 16, 17, 18, 19, 20, 21, 22, 23, 24] rfl (by decide +kernel)
set_option maxRecDepth 20000 in
theorem gX7_cellSign_X7_figures : GoodIn wsX7_cellSign (wsV RX7 148 RX7 yX7_figures wsX7_figures) := goodIn_app (goodIn_r _ [1, 2, 3, 4] rfl (by decide +kernel)) ggX7_cellSign_X7_figures
theorem dX7_cellSign_0 : decode cX7_cellSign 0 = .ok (.aload_n 0, 1) := by decide +kernel
theorem dX7_cellSign_1 : decode cX7_cellSign 1 = .ok (.iload_n 1, 1) := by decide +kernel
theorem dX7_cellSign_2 : decode cX7_cellSign 2 = .ok (.iconst 2, 1) := by decide +kernel
theorem dX7_cellSign_3 : decode cX7_cellSign 3 = .ok (.iconst 0, 1) := by decide +kernel
theorem dX7_cellSign_4 : decode cX7_cellSign 4 = .ok (.bipush 79, 2) := by decide +kernel
theorem dX7_cellSign_6 : decode cX7_cellSign 6 = .ok (.invokevirtual 148, 3) := by decide +kernel
theorem dX7_cellSign_9 : decode cX7_cellSign 9 = .ok (.ireturn, 1) := by decide +kernel
set_option maxRecDepth 20000 in
theorem ggX7_readHydrant_X7_cellSign : GoodIn wsX7_readHydrant wsX7_cellSign := goodIn_r _ [8, 9, 10, 11, 7, 12, 1, 2, 3, 13, 14, 15, 16, 35, 36, 37, 38, 39, 40, 41, 42, 43, 44, 45, 46] rfl (by decide +kernel)
set_option maxRecDepth 20000 in
theorem gX7_readHydrant_X7_cellSign : GoodIn wsX7_readHydrant (wsV RX7 152 RX7 yX7_cellSign wsX7_cellSign) := goodIn_app (goodIn_r _ [4, 5, 6, 7] rfl (by decide +kernel)) ggX7_readHydrant_X7_cellSign
set_option maxRecDepth 20000 in
theorem ggX7_readHydrant_X7_canHydrant : GoodIn wsX7_readHydrant wsX7_canHydrant := goodIn_r _ [19, 20, 21, 7, 22, 23, 14, 15, 16] rfl (by decide +kernel)
set_option maxRecDepth 20000 in
theorem gX7_readHydrant_X7_canHydrant : GoodIn wsX7_readHydrant (va_wsS RX7 156 yX7_canHydrant wsX7_canHydrant) := goodIn_app (goodIn_r _ [17, 18, 7] rfl (by decide +kernel)) ggX7_readHydrant_X7_canHydrant
set_option maxRecDepth 20000 in
theorem ggX7_readHydrant_X7_hydrantOn : GoodIn wsX7_readHydrant wsX7_hydrantOn := goodIn_r _ [26, 27, 28, 7, 29] rfl (by decide +kernel)
set_option maxRecDepth 20000 in
theorem gX7_readHydrant_X7_hydrantOn : GoodIn wsX7_readHydrant (va_wsS RX7 160 yX7_hydrantOn wsX7_hydrantOn) := goodIn_app (goodIn_r _ [24, 25, 7] rfl (by decide +kernel)) ggX7_readHydrant_X7_hydrantOn
set_option maxRecDepth 20000 in
theorem ggX7_readHydrant_X7_done : GoodIn wsX7_readHydrant wsX7_done := goodIn_r _ [33, 34, 35, 36, 37, 38, 39, 40, 41, 42, 43, 44, 45, 46] rfl (by decide +kernel)
set_option maxRecDepth 20000 in
theorem gX7_readHydrant_X7_done : GoodIn wsX7_readHydrant (wsV RX7 164 RX7 yX7_done wsX7_done) := goodIn_app (goodIn_r _ [30, 31, 32, 7] rfl (by decide +kernel)) ggX7_readHydrant_X7_done
theorem dX7_readHydrant_0 : decode cX7_readHydrant 0 = .ok (.aload_n 0, 1) := by decide +kernel
theorem dX7_readHydrant_1 : decode cX7_readHydrant 1 = .ok (.iconst 0, 1) := by decide +kernel
theorem dX7_readHydrant_2 : decode cX7_readHydrant 2 = .ok (.invokevirtual 152, 3) := by decide +kernel
theorem dX7_readHydrant_5 : decode cX7_readHydrant 5 = .ok (.istore_n 2, 1) := by decide +kernel
theorem dX7_readHydrant_6 : decode cX7_readHydrant 6 = .ok (.iload_n 2, 1) := by decide +kernel
theorem dX7_readHydrant_7 : decode cX7_readHydrant 7 = .ok (.iconst (-1), 1) := by decide +kernel
theorem dX7_readHydrant_8 : decode cX7_readHydrant 8 = .ok (.if_icmp .eq 42, 3) := by decide +kernel
theorem dX7_readHydrant_11 : decode cX7_readHydrant 11 = .ok (.aload_n 0, 1) := by decide +kernel
theorem dX7_readHydrant_12 : decode cX7_readHydrant 12 = .ok (.getfield 140, 3) := by decide +kernel
theorem dX7_readHydrant_15 : decode cX7_readHydrant 15 = .ok (.aload_n 0, 1) := by decide +kernel
theorem dX7_readHydrant_16 : decode cX7_readHydrant 16 = .ok (.getfield 134, 3) := by decide +kernel
theorem dX7_readHydrant_19 : decode cX7_readHydrant 19 = .ok (.if_icmp .eq 31, 3) := by decide +kernel
theorem dX7_readHydrant_22 : decode cX7_readHydrant 22 = .ok (.aload_n 0, 1) := by decide +kernel
theorem dX7_readHydrant_23 : decode cX7_readHydrant 23 = .ok (.getfield 7, 3) := by decide +kernel
theorem dX7_readHydrant_26 : decode cX7_readHydrant 26 = .ok (.aload_n 0, 1) := by decide +kernel
theorem dX7_readHydrant_27 : decode cX7_readHydrant 27 = .ok (.getfield 140, 3) := by decide +kernel
theorem dX7_readHydrant_30 : decode cX7_readHydrant 30 = .ok (.iaload, 1) := by decide +kernel
theorem dX7_readHydrant_31 : decode cX7_readHydrant 31 = .ok (.bipush 43, 2) := by decide +kernel
theorem dX7_readHydrant_33 : decode cX7_readHydrant 33 = .ok (.if_icmp .eq 19, 3) := by decide +kernel
theorem dX7_readHydrant_36 : decode cX7_readHydrant 36 = .ok (.aload_n 0, 1) := by decide +kernel
theorem dX7_readHydrant_37 : decode cX7_readHydrant 37 = .ok (.getfield 7, 3) := by decide +kernel
theorem dX7_readHydrant_40 : decode cX7_readHydrant 40 = .ok (.aload_n 0, 1) := by decide +kernel
theorem dX7_readHydrant_41 : decode cX7_readHydrant 41 = .ok (.getfield 140, 3) := by decide +kernel
theorem dX7_readHydrant_44 : decode cX7_readHydrant 44 = .ok (.iaload, 1) := by decide +kernel
theorem dX7_readHydrant_45 : decode cX7_readHydrant 45 = .ok (.bipush 45, 2) := by decide +kernel
theorem dX7_readHydrant_47 : decode cX7_readHydrant 47 = .ok (.if_icmp .eq 5, 3) := by decide +kernel
theorem dX7_readHydrant_50 : decode cX7_readHydrant 50 = .ok (.iconst 0, 1) := by decide +kernel
theorem dX7_readHydrant_51 : decode cX7_readHydrant 51 = .ok (.ireturn, 1) := by decide +kernel
theorem dX7_readHydrant_52 : decode cX7_readHydrant 52 = .ok (.aload_n 0, 1) := by decide +kernel
theorem dX7_readHydrant_53 : decode cX7_readHydrant 53 = .ok (.getfield 7, 3) := by decide +kernel
theorem dX7_readHydrant_56 : decode cX7_readHydrant 56 = .ok (.aload_n 0, 1) := by decide +kernel
theorem dX7_readHydrant_57 : decode cX7_readHydrant 57 = .ok (.getfield 140, 3) := by decide +kernel
theorem dX7_readHydrant_60 : decode cX7_readHydrant 60 = .ok (.iaload, 1) := by decide +kernel
theorem dX7_readHydrant_61 : decode cX7_readHydrant 61 = .ok (.bipush 43, 2) := by decide +kernel
theorem dX7_readHydrant_63 : decode cX7_readHydrant 63 = .ok (.if_icmp .ne 7, 3) := by decide +kernel
theorem dX7_readHydrant_66 : decode cX7_readHydrant 66 = .ok (.iconst 1, 1) := by decide +kernel
theorem dX7_readHydrant_67 : decode cX7_readHydrant 67 = .ok (.goto 4, 3) := by decide +kernel
theorem dX7_readHydrant_70 : decode cX7_readHydrant 70 = .ok (.iconst 0, 1) := by decide +kernel
theorem dX7_readHydrant_71 : decode cX7_readHydrant 71 = .ok (.istore_n 3, 1) := by decide +kernel
theorem dX7_readHydrant_72 : decode cX7_readHydrant 72 = .ok (.aload_n 0, 1) := by decide +kernel
theorem dX7_readHydrant_73 : decode cX7_readHydrant 73 = .ok (.dup, 1) := by decide +kernel
theorem dX7_readHydrant_74 : decode cX7_readHydrant 74 = .ok (.getfield 140, 3) := by decide +kernel
theorem dX7_readHydrant_77 : decode cX7_readHydrant 77 = .ok (.iconst 1, 1) := by decide +kernel
theorem dX7_readHydrant_78 : decode cX7_readHydrant 78 = .ok (.iadd, 1) := by decide +kernel
theorem dX7_readHydrant_79 : decode cX7_readHydrant 79 = .ok (.putfield 140, 3) := by decide +kernel
theorem dX7_readHydrant_82 : decode cX7_readHydrant 82 = .ok (.aload_n 0, 1) := by decide +kernel
theorem dX7_readHydrant_83 : decode cX7_readHydrant 83 = .ok (.aload_n 1, 1) := by decide +kernel
theorem dX7_readHydrant_84 : decode cX7_readHydrant 84 = .ok (.iload_n 2, 1) := by decide +kernel
theorem dX7_readHydrant_85 : decode cX7_readHydrant 85 = .ok (.iload_n 3, 1) := by decide +kernel
theorem dX7_readHydrant_86 : decode cX7_readHydrant 86 = .ok (.invokestatic 156, 3) := by decide +kernel
theorem dX7_readHydrant_89 : decode cX7_readHydrant 89 = .ok (.ifCond .eq 16, 3) := by decide +kernel
theorem dX7_readHydrant_92 : decode cX7_readHydrant 92 = .ok (.aload_n 1, 1) := by decide +kernel
theorem dX7_readHydrant_93 : decode cX7_readHydrant 93 = .ok (.iload_n 2, 1) := by decide +kernel
theorem dX7_readHydrant_94 : decode cX7_readHydrant 94 = .ok (.iload_n 3, 1) := by decide +kernel
theorem dX7_readHydrant_95 : decode cX7_readHydrant 95 = .ok (.invokestatic 160, 3) := by decide +kernel
theorem dX7_readHydrant_98 : decode cX7_readHydrant 98 = .ok (.ifCond .lt 7, 3) := by decide +kernel
theorem dX7_readHydrant_101 : decode cX7_readHydrant 101 = .ok (.iconst 1, 1) := by decide +kernel
theorem dX7_readHydrant_102 : decode cX7_readHydrant 102 = .ok (.goto 4, 3) := by decide +kernel
theorem dX7_readHydrant_105 : decode cX7_readHydrant 105 = .ok (.iconst 0, 1) := by decide +kernel
theorem dX7_readHydrant_106 : decode cX7_readHydrant 106 = .ok (.invokevirtual 164, 3) := by decide +kernel
theorem dX7_readHydrant_109 : decode cX7_readHydrant 109 = .ok (.ireturn, 1) := by decide +kernel
set_option maxRecDepth 20000 in
theorem ggX7_readCommand_X7_readHydrant : GoodIn wsX7_readCommand wsX7_readHydrant := goodIn_r _ [7, 2, 8, 1, 9, 10, 11, 6, 12, 13, 14, 15, 16, 17, 18, 19, 20, 21, 22, 23, 24, 25, 26, 27, 28, 29, 30, 31, 32, 33, 34, 35, 36, 37, 38, 112, 113, 114, 115, 116, 117, 118, 119, 120, 121, 122, 123] rfl (by decide +kernel)
set_option maxRecDepth 20000 in
theorem gX7_readCommand_X7_readHydrant : GoodIn wsX7_readCommand (wsV RX7 168 RX7 yX7_readHydrant wsX7_readHydrant) := goodIn_app (goodIn_r _ [3, 4, 5, 6] rfl (by decide +kernel)) ggX7_readCommand_X7_readHydrant
set_option maxRecDepth 20000 in
theorem ggX7_readCommand_X7_figures : GoodIn wsX7_readCommand wsX7_figures := goodIn_r _ [16, 2, 8, 1, 17, 18, 19, 6, 20, 112, 113, 114, 115, 116, 117, 118, 119, 120, 121, 122, 123] rfl (by decide +kernel)
set_option maxRecDepth 20000 in
theorem gX7_readCommand_X7_figures : GoodIn wsX7_readCommand (wsV RX7 148 RX7 yX7_figures wsX7_figures) := goodIn_app (goodIn_r _ [13, 14, 15, 6] rfl (by decide +kernel)) ggX7_readCommand_X7_figures
set_option maxRecDepth 20000 in
theorem ggX7_readCommand_X7_comeOn : GoodIn wsX7_readCommand wsX7_comeOn := goodIn_r _ [41, 42, 43, 6, 44, 45, 46, 47, 48, 49, 50, 51, 52, 53, 54, 55, 56, 57, 58, 59, 60, 61, 62, 63, 64, 65, 66, 67, 68, 69, 70, 71, 72, 73, 74, 75, 76, 77, 78, 79, 80] rfl (by decide +kernel)
set_option maxRecDepth 20000 in
theorem gX7_readCommand_X7_comeOn : GoodIn wsX7_readCommand (va_wsS RX7 172 yX7_comeOn wsX7_comeOn) := goodIn_app (goodIn_r _ [39, 40, 6] rfl (by decide +kernel)) ggX7_readCommand_X7_comeOn
set_option maxRecDepth 20000 in
theorem ggX7_readCommand_X7_done : GoodIn wsX7_readCommand wsX7_done := goodIn_r _ [37, 38, 112, 113, 114, 115, 116, 117, 118, 119, 120, 121, 122, 123] rfl (by decide +kernel)
set_option maxRecDepth 20000 in
theorem gX7_readCommand_X7_done : GoodIn wsX7_readCommand (wsV RX7 164 RX7 yX7_done wsX7_done) := goodIn_app (goodIn_r _ [34, 35, 36, 6] rfl (by decide +kernel)) ggX7_readCommand_X7_done
set_option maxRecDepth 20000 in
theorem ggX7_readCommand_X7_carSign : GoodIn wsX7_readCommand wsX7_carSign := goodIn_r _ [84, 13, 14, 15, 6, 16, 2, 8, 1, 17, 18, 19, 20, 112, 113, 114, 115, 116, 117, 118, 119, 120, 121, 122, 123] rfl (by decide +kernel)
set_option maxRecDepth 20000 in
theorem gX7_readCommand_X7_carSign : GoodIn wsX7_readCommand (wsV RX7 175 RX7 yX7_carSign wsX7_carSign) := goodIn_app (goodIn_r _ [81, 82, 83, 6] rfl (by decide +kernel)) ggX7_readCommand_X7_carSign
set_option maxRecDepth 20000 in
theorem ggX7_readCommand_X7_isParked : GoodIn wsX7_readCommand wsX7_isParked := goodIn_r _ [87, 88, 89, 6, 90, 18, 19, 20, 48, 49, 50] rfl (by decide +kernel)
set_option maxRecDepth 20000 in
theorem gX7_readCommand_X7_isParked : GoodIn wsX7_readCommand (va_wsS RX7 125 yX7_isParked wsX7_isParked) := goodIn_app (goodIn_r _ [85, 86, 6] rfl (by decide +kernel)) ggX7_readCommand_X7_isParked
set_option maxRecDepth 20000 in
theorem ggX7_readCommand_X7_goes : GoodIn wsX7_readCommand wsX7_goes := goodIn_r _ [93, 48, 49, 6, 50, 78, 79, 80, 42, 43, 44] rfl (by decide +kernel)
set_option maxRecDepth 20000 in
theorem gX7_readCommand_X7_goes : GoodIn wsX7_readCommand (va_wsS RX7 109 yX7_goes wsX7_goes) := goodIn_app (goodIn_r _ [91, 92, 6] rfl (by decide +kernel)) ggX7_readCommand_X7_goes
set_option maxRecDepth 20000 in
theorem ggX7_readCommand_X7_cellSign : GoodIn wsX7_readCommand wsX7_cellSign := goodIn_r _ [12, 13, 14, 15, 6, 16, 2, 8, 1, 17, 18, 19, 20, 112, 113, 114, 115, 116, 117, 118, 119, 120, 121, 122, 123] rfl (by decide +kernel)
set_option maxRecDepth 20000 in
theorem gX7_readCommand_X7_cellSign : GoodIn wsX7_readCommand (wsV RX7 152 RX7 yX7_cellSign wsX7_cellSign) := goodIn_app (goodIn_r _ [9, 10, 11, 6] rfl (by decide +kernel)) ggX7_readCommand_X7_cellSign
set_option maxRecDepth 20000 in
theorem ggX7_readCommand_X7_isCar : GoodIn wsX7_readCommand wsX7_isCar := goodIn_r _ [90, 18, 19, 6, 20] rfl (by decide +kernel)
set_option maxRecDepth 20000 in
theorem gX7_readCommand_X7_isCar : GoodIn wsX7_readCommand (va_wsS RX7 44 yX7_isCar wsX7_isCar) := goodIn_app (goodIn_r _ [88, 89, 6] rfl (by decide +kernel)) ggX7_readCommand_X7_isCar
set_option maxRecDepth 20000 in
theorem ggX7_readCommand_X7_canMove : GoodIn wsX7_readCommand wsX7_canMove := goodIn_r _ [96, 48, 49, 6, 50, 85, 86, 87, 88, 89, 90, 18, 19, 20, 97, 98, 99] rfl (by decide +kernel)
set_option maxRecDepth 20000 in
theorem gX7_readCommand_X7_canMove : GoodIn wsX7_readCommand (va_wsS RX7 179 yX7_canMove wsX7_canMove) := goodIn_app (goodIn_r _ [94, 95, 6] rfl (by decide +kernel)) ggX7_readCommand_X7_canMove
set_option maxRecDepth 20000 in
theorem ggX7_readCommand_X7_moveOn : GoodIn wsX7_readCommand wsX7_moveOn := goodIn_r _ [102, 48, 49, 6, 50, 78, 79, 80, 42, 43, 44] rfl (by decide +kernel)
set_option maxRecDepth 20000 in
theorem gX7_readCommand_X7_moveOn : GoodIn wsX7_readCommand (va_wsS RX7 183 yX7_moveOn wsX7_moveOn) := goodIn_app (goodIn_r _ [100, 101, 6] rfl (by decide +kernel)) ggX7_readCommand_X7_moveOn
set_option maxRecDepth 20000 in
theorem ggX7_readCommand_X7_change : GoodIn wsX7_readCommand wsX7_change := goodIn_r _ [105] rfl (by decide +kernel)
set_option maxRecDepth 20000 in
theorem gX7_readCommand_X7_change : GoodIn wsX7_readCommand (va_wsS RX7 186 yX7_change wsX7_change) := goodIn_app (goodIn_r _ [103, 104, 6] rfl (by decide +kernel)) ggX7_readCommand_X7_change
set_option maxRecDepth 20000 in
theorem ggX7_readCommand_X7_minutesOn : GoodIn wsX7_readCommand wsX7_minutesOn := goodIn_r _ [108, 109, 110, 6, 111, 48, 49, 50, 42, 43, 44, 91, 92, 93, 78, 79, 80, 45, 46, 47, 51, 52, 53, 54, 55, 56, 57, 58, 59, 60, 61, 62, 63, 64, 65, 66, 67, 68, 69, 70, 71, 72, 73, 74, 75, 76, 77] rfl (by decide +kernel)
set_option maxRecDepth 20000 in
theorem gX7_readCommand_X7_minutesOn : GoodIn wsX7_readCommand (va_wsS RX7 189 yX7_minutesOn wsX7_minutesOn) := goodIn_app (goodIn_r _ [106, 107, 6] rfl (by decide +kernel)) ggX7_readCommand_X7_minutesOn
theorem dX7_readCommand_0 : decode cX7_readCommand 0 = .ok (.aload_n 0, 1) := by decide +kernel
theorem dX7_readCommand_1 : decode cX7_readCommand 1 = .ok (.getfield 7, 3) := by decide +kernel
theorem dX7_readCommand_4 : decode cX7_readCommand 4 = .ok (.aload_n 0, 1) := by decide +kernel
theorem dX7_readCommand_5 : decode cX7_readCommand 5 = .ok (.getfield 140, 3) := by decide +kernel
theorem dX7_readCommand_8 : decode cX7_readCommand 8 = .ok (.iaload, 1) := by decide +kernel
theorem dX7_readCommand_9 : decode cX7_readCommand 9 = .ok (.istore_n 2, 1) := by decide +kernel
theorem dX7_readCommand_10 : decode cX7_readCommand 10 = .ok (.aload_n 0, 1) := by decide +kernel
theorem dX7_readCommand_11 : decode cX7_readCommand 11 = .ok (.dup, 1) := by decide +kernel
theorem dX7_readCommand_12 : decode cX7_readCommand 12 = .ok (.getfield 140, 3) := by decide +kernel
theorem dX7_readCommand_15 : decode cX7_readCommand 15 = .ok (.iconst 1, 1) := by decide +kernel
theorem dX7_readCommand_16 : decode cX7_readCommand 16 = .ok (.iadd, 1) := by decide +kernel
theorem dX7_readCommand_17 : decode cX7_readCommand 17 = .ok (.putfield 140, 3) := by decide +kernel
theorem dX7_readCommand_20 : decode cX7_readCommand 20 = .ok (.iload_n 2, 1) := by decide +kernel
theorem dX7_readCommand_21 : decode cX7_readCommand 21 = .ok (.tableswitch 357 99 116 #[93, 357, 357, 357, 357, 87, 357, 357, 357, 156, 211, 357, 357, 316, 357, 275, 357, 156], 87) := by decide +kernel
theorem dX7_readCommand_108 : decode cX7_readCommand 108 = .ok (.aload_n 0, 1) := by decide +kernel
theorem dX7_readCommand_109 : decode cX7_readCommand 109 = .ok (.aload_n 1, 1) := by decide +kernel
theorem dX7_readCommand_110 : decode cX7_readCommand 110 = .ok (.invokevirtual 168, 3) := by decide +kernel
theorem dX7_readCommand_113 : decode cX7_readCommand 113 = .ok (.ireturn, 1) := by decide +kernel
theorem dX7_readCommand_114 : decode cX7_readCommand 114 = .ok (.aload_n 0, 1) := by decide +kernel
theorem dX7_readCommand_115 : decode cX7_readCommand 115 = .ok (.iconst 0, 1) := by decide +kernel
theorem dX7_readCommand_116 : decode cX7_readCommand 116 = .ok (.iconst 1, 1) := by decide +kernel
theorem dX7_readCommand_117 : decode cX7_readCommand 117 = .ok (.iconst 2, 1) := by decide +kernel
theorem dX7_readCommand_118 : decode cX7_readCommand 118 = .ok (.bipush 8, 2) := by decide +kernel
theorem dX7_readCommand_120 : decode cX7_readCommand 120 = .ok (.invokevirtual 148, 3) := by decide +kernel
theorem dX7_readCommand_123 : decode cX7_readCommand 123 = .ok (.istore_n 3, 1) := by decide +kernel
theorem dX7_readCommand_124 : decode cX7_readCommand 124 = .ok (.aload_n 0, 1) := by decide +kernel
theorem dX7_readCommand_125 : decode cX7_readCommand 125 = .ok (.iload_n 3, 1) := by decide +kernel
theorem dX7_readCommand_126 : decode cX7_readCommand 126 = .ok (.iconst 2, 1) := by decide +kernel
theorem dX7_readCommand_127 : decode cX7_readCommand 127 = .ok (.iconst 1, 1) := by decide +kernel
theorem dX7_readCommand_128 : decode cX7_readCommand 128 = .ok (.bipush 99, 2) := by decide +kernel
theorem dX7_readCommand_130 : decode cX7_readCommand 130 = .ok (.invokevirtual 148, 3) := by decide +kernel
theorem dX7_readCommand_133 : decode cX7_readCommand 133 = .ok (.istore 4, 2) := by decide +kernel
theorem dX7_readCommand_135 : decode cX7_readCommand 135 = .ok (.iload 4, 2) := by decide +kernel
theorem dX7_readCommand_137 : decode cX7_readCommand 137 = .ok (.iconst (-1), 1) := by decide +kernel
theorem dX7_readCommand_138 : decode cX7_readCommand 138 = .ok (.if_icmp .eq 37, 3) := by decide +kernel
theorem dX7_readCommand_141 : decode cX7_readCommand 141 = .ok (.aload_n 0, 1) := by decide +kernel
theorem dX7_readCommand_142 : decode cX7_readCommand 142 = .ok (.aload_n 1, 1) := by decide +kernel
theorem dX7_readCommand_143 : decode cX7_readCommand 143 = .ok (.iconst 0, 1) := by decide +kernel
theorem dX7_readCommand_144 : decode cX7_readCommand 144 = .ok (.iaload, 1) := by decide +kernel
theorem dX7_readCommand_145 : decode cX7_readCommand 145 = .ok (.bipush 40, 2) := by decide +kernel
theorem dX7_readCommand_147 : decode cX7_readCommand 147 = .ok (.if_icmp .ge 17, 3) := by decide +kernel
theorem dX7_readCommand_150 : decode cX7_readCommand 150 = .ok (.aload_n 1, 1) := by decide +kernel
theorem dX7_readCommand_151 : decode cX7_readCommand 151 = .ok (.iload_n 3, 1) := by decide +kernel
theorem dX7_readCommand_152 : decode cX7_readCommand 152 = .ok (.iload 4, 2) := by decide +kernel
theorem dX7_readCommand_154 : decode cX7_readCommand 154 = .ok (.invokestatic 172, 3) := by decide +kernel
theorem dX7_readCommand_157 : decode cX7_readCommand 157 = .ok (.ifCond .lt 7, 3) := by decide +kernel
theorem dX7_readCommand_160 : decode cX7_readCommand 160 = .ok (.iconst 1, 1) := by decide +kernel
theorem dX7_readCommand_161 : decode cX7_readCommand 161 = .ok (.goto 4, 3) := by decide +kernel
theorem dX7_readCommand_164 : decode cX7_readCommand 164 = .ok (.iconst 0, 1) := by decide +kernel
theorem dX7_readCommand_165 : decode cX7_readCommand 165 = .ok (.invokevirtual 164, 3) := by decide +kernel
theorem dX7_readCommand_168 : decode cX7_readCommand 168 = .ok (.ifCond .eq 7, 3) := by decide +kernel
theorem dX7_readCommand_171 : decode cX7_readCommand 171 = .ok (.iconst 1, 1) := by decide +kernel
theorem dX7_readCommand_172 : decode cX7_readCommand 172 = .ok (.goto 4, 3) := by decide +kernel
theorem dX7_readCommand_175 : decode cX7_readCommand 175 = .ok (.iconst 0, 1) := by decide +kernel
theorem dX7_readCommand_176 : decode cX7_readCommand 176 = .ok (.ireturn, 1) := by decide +kernel
theorem dX7_readCommand_177 : decode cX7_readCommand 177 = .ok (.aload_n 0, 1) := by decide +kernel
theorem dX7_readCommand_178 : decode cX7_readCommand 178 = .ok (.invokevirtual 175, 3) := by decide +kernel
theorem dX7_readCommand_181 : decode cX7_readCommand 181 = .ok (.istore_n 3, 1) := by decide +kernel
theorem dX7_readCommand_182 : decode cX7_readCommand 182 = .ok (.iload_n 3, 1) := by decide +kernel
theorem dX7_readCommand_183 : decode cX7_readCommand 183 = .ok (.iconst (-1), 1) := by decide +kernel
theorem dX7_readCommand_184 : decode cX7_readCommand 184 = .ok (.if_icmp .eq 46, 3) := by decide +kernel
theorem dX7_readCommand_187 : decode cX7_readCommand 187 = .ok (.aload_n 0, 1) := by decide +kernel
theorem dX7_readCommand_188 : decode cX7_readCommand 188 = .ok (.aload_n 1, 1) := by decide +kernel
theorem dX7_readCommand_189 : decode cX7_readCommand 189 = .ok (.iload_n 3, 1) := by decide +kernel
theorem dX7_readCommand_190 : decode cX7_readCommand 190 = .ok (.invokestatic 125, 3) := by decide +kernel
