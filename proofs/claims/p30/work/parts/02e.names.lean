theorem dX5_firstError_11 : decode cX5_firstError 11 = .ok (.ireturn, 1) := by decide +kernel
theorem dX5_firstError_12 : decode cX5_firstError 12 = .ok (.iconst 1, 1) := by decide +kernel
theorem dX5_firstError_13 : decode cX5_firstError 13 = .ok (.istore_n 1, 1) := by decide +kernel
theorem dX5_firstError_14 : decode cX5_firstError 14 = .ok (.iconst 0, 1) := by decide +kernel
theorem dX5_firstError_15 : decode cX5_firstError 15 = .ok (.istore_n 2, 1) := by decide +kernel
theorem dX5_firstError_16 : decode cX5_firstError 16 = .ok (.iload_n 2, 1) := by decide +kernel
theorem dX5_firstError_17 : decode cX5_firstError 17 = .ok (.bipush 120, 2) := by decide +kernel
theorem dX5_firstError_19 : decode cX5_firstError 19 = .ok (.if_icmp .ge 38, 3) := by decide +kernel
theorem dX5_firstError_22 : decode cX5_firstError 22 = .ok (.aload_n 0, 1) := by decide +kernel
theorem dX5_firstError_23 : decode cX5_firstError 23 = .ok (.iload_n 1, 1) := by decide +kernel
theorem dX5_firstError_24 : decode cX5_firstError 24 = .ok (.invokevirtual 23, 3) := by decide +kernel
theorem dX5_firstError_27 : decode cX5_firstError 27 = .ok (.ifCond .eq 30, 3) := by decide +kernel
theorem dX5_firstError_30 : decode cX5_firstError 30 = .ok (.aload_n 0, 1) := by decide +kernel
theorem dX5_firstError_31 : decode cX5_firstError 31 = .ok (.iload_n 1, 1) := by decide +kernel
theorem dX5_firstError_32 : decode cX5_firstError 32 = .ok (.invokevirtual 27, 3) := by decide +kernel
theorem dX5_firstError_35 : decode cX5_firstError 35 = .ok (.istore_n 3, 1) := by decide +kernel
theorem dX5_firstError_36 : decode cX5_firstError 36 = .ok (.iload_n 3, 1) := by decide +kernel
theorem dX5_firstError_37 : decode cX5_firstError 37 = .ok (.iconst (-1), 1) := by decide +kernel
theorem dX5_firstError_38 : decode cX5_firstError 38 = .ok (.if_icmp .eq 5, 3) := by decide +kernel
theorem dX5_firstError_41 : decode cX5_firstError 41 = .ok (.iload_n 3, 1) := by decide +kernel
theorem dX5_firstError_42 : decode cX5_firstError 42 = .ok (.ireturn, 1) := by decide +kernel
theorem dX5_firstError_43 : decode cX5_firstError 43 = .ok (.iload_n 1, 1) := by decide +kernel
theorem dX5_firstError_44 : decode cX5_firstError 44 = .ok (.aload_n 0, 1) := by decide +kernel
theorem dX5_firstError_45 : decode cX5_firstError 45 = .ok (.iload_n 1, 1) := by decide +kernel
theorem dX5_firstError_46 : decode cX5_firstError 46 = .ok (.invokevirtual 30, 3) := by decide +kernel
theorem dX5_firstError_49 : decode cX5_firstError 49 = .ok (.iadd, 1) := by decide +kernel
theorem dX5_firstError_50 : decode cX5_firstError 50 = .ok (.istore_n 1, 1) := by decide +kernel
theorem dX5_firstError_51 : decode cX5_firstError 51 = .ok (.iinc 2 1, 3) := by decide +kernel
theorem dX5_firstError_54 : decode cX5_firstError 54 = .ok (.goto (-38), 3) := by decide +kernel
theorem dX5_firstError_57 : decode cX5_firstError 57 = .ok (.iconst (-1), 1) := by decide +kernel
theorem dX5_firstError_58 : decode cX5_firstError 58 = .ok (.ireturn, 1) := by decide +kernel
set_option maxRecDepth 20000 in
theorem ggX5_errorInCommand_X5_letterAt : GoodIn wsX5_errorInCommand wsX5_letterAt := goodIn_r _ [5, 6, 7, 27, 28] rfl (by decide +kernel)
set_option maxRecDepth 20000 in
theorem gX5_errorInCommand_X5_letterAt : GoodIn wsX5_errorInCommand (wsV RX5 19 RX5 yX5_letterAt wsX5_letterAt) := goodIn_app (goodIn_r _ [1, 2, 3, 4] rfl (by decide +kernel)) ggX5_errorInCommand_X5_letterAt
set_option maxRecDepth 20000 in
theorem ggX5_errorInCommand_X5_errorInCell : GoodIn wsX5_errorInCommand wsX5_errorInCell := goodIn_r _ [11, 12, 13, 14, 4, 15, 1, 2, 3, 5, 6, 7, 27, 28] rfl (by decide +kernel)
set_option maxRecDepth 20000 in
theorem gX5_errorInCommand_X5_errorInCell : GoodIn wsX5_errorInCommand (wsV RX5 33 RX5 yX5_errorInCell wsX5_errorInCell) := goodIn_app (goodIn_r _ [8, 9, 10, 4] rfl (by decide +kernel)) ggX5_errorInCommand_X5_errorInCell
set_option maxRecDepth 20000 in
theorem ggX5_errorInCommand_X5_errorInSign : GoodIn wsX5_errorInCommand wsX5_errorInSign := goodIn_r _ [19, 1, 2, 3, 4, 5, 6, 7, 27, 28] rfl (by decide +kernel)
set_option maxRecDepth 20000 in
theorem gX5_errorInCommand_X5_errorInSign : GoodIn wsX5_errorInCommand (wsV RX5 36 RX5 yX5_errorInSign wsX5_errorInSign) := goodIn_app (goodIn_r _ [16, 17, 18, 4] rfl (by decide +kernel)) ggX5_errorInCommand_X5_errorInSign
set_option maxRecDepth 20000 in
theorem ggX5_errorInCommand_X5_firstOf : GoodIn wsX5_errorInCommand wsX5_firstOf := goodIn_r _ [22] rfl (by decide +kernel)
set_option maxRecDepth 20000 in
theorem gX5_errorInCommand_X5_firstOf : GoodIn wsX5_errorInCommand (va_wsS RX5 39 yX5_firstOf wsX5_firstOf) := goodIn_app (goodIn_r _ [20, 21, 4] rfl (by decide +kernel)) ggX5_errorInCommand_X5_firstOf
set_option maxRecDepth 20000 in
theorem ggX5_errorInCommand_X5_errorInNumber : GoodIn wsX5_errorInCommand wsX5_errorInNumber := goodIn_r _ [15, 1, 2, 3, 4, 5, 6, 7, 27, 28] rfl (by decide +kernel)
set_option maxRecDepth 20000 in
theorem gX5_errorInCommand_X5_errorInNumber : GoodIn wsX5_errorInCommand (wsV RX5 43 RX5 yX5_errorInNumber wsX5_errorInNumber) := goodIn_app (goodIn_r _ [12, 13, 14, 4] rfl (by decide +kernel)) ggX5_errorInCommand_X5_errorInNumber
set_option maxRecDepth 20000 in
theorem ggX5_errorInCommand_X5_errorInCar : GoodIn wsX5_errorInCommand wsX5_errorInCar := goodIn_r _ [26, 12, 13, 14, 4, 15, 1, 2, 3, 5, 6, 7, 27, 28] rfl (by decide +kernel)
set_option maxRecDepth 20000 in
theorem gX5_errorInCommand_X5_errorInCar : GoodIn wsX5_errorInCommand (wsV RX5 47 RX5 yX5_errorInCar wsX5_errorInCar) := goodIn_app (goodIn_r _ [23, 24, 25, 4] rfl (by decide +kernel)) ggX5_errorInCommand_X5_errorInCar
theorem dX5_errorInCommand_0 : decode cX5_errorInCommand 0 = .ok (.aload_n 0, 1) := by decide +kernel
theorem dX5_errorInCommand_1 : decode cX5_errorInCommand 1 = .ok (.iload_n 1, 1) := by decide +kernel
theorem dX5_errorInCommand_2 : decode cX5_errorInCommand 2 = .ok (.invokevirtual 19, 3) := by decide +kernel
theorem dX5_errorInCommand_5 : decode cX5_errorInCommand 5 = .ok (.tableswitch 188 99 116 #[105, 188, 188, 188, 188, 87, 188, 188, 188, 131, 147, 188, 188, 176, 188, 165, 188, 139], 87) := by decide +kernel
theorem dX5_errorInCommand_92 : decode cX5_errorInCommand 92 = .ok (.aload_n 0, 1) := by decide +kernel
theorem dX5_errorInCommand_93 : decode cX5_errorInCommand 93 = .ok (.iload_n 1, 1) := by decide +kernel
theorem dX5_errorInCommand_94 : decode cX5_errorInCommand 94 = .ok (.iconst 1, 1) := by decide +kernel
theorem dX5_errorInCommand_95 : decode cX5_errorInCommand 95 = .ok (.iadd, 1) := by decide +kernel
theorem dX5_errorInCommand_96 : decode cX5_errorInCommand 96 = .ok (.invokevirtual 33, 3) := by decide +kernel
theorem dX5_errorInCommand_99 : decode cX5_errorInCommand 99 = .ok (.aload_n 0, 1) := by decide +kernel
theorem dX5_errorInCommand_100 : decode cX5_errorInCommand 100 = .ok (.iload_n 1, 1) := by decide +kernel
theorem dX5_errorInCommand_101 : decode cX5_errorInCommand 101 = .ok (.iconst 3, 1) := by decide +kernel
theorem dX5_errorInCommand_102 : decode cX5_errorInCommand 102 = .ok (.iadd, 1) := by decide +kernel
theorem dX5_errorInCommand_103 : decode cX5_errorInCommand 103 = .ok (.invokevirtual 36, 3) := by decide +kernel
theorem dX5_errorInCommand_106 : decode cX5_errorInCommand 106 = .ok (.invokestatic 39, 3) := by decide +kernel
theorem dX5_errorInCommand_109 : decode cX5_errorInCommand 109 = .ok (.ireturn, 1) := by decide +kernel
theorem dX5_errorInCommand_110 : decode cX5_errorInCommand 110 = .ok (.aload_n 0, 1) := by decide +kernel
theorem dX5_errorInCommand_111 : decode cX5_errorInCommand 111 = .ok (.iload_n 1, 1) := by decide +kernel
theorem dX5_errorInCommand_112 : decode cX5_errorInCommand 112 = .ok (.iconst 1, 1) := by decide +kernel
theorem dX5_errorInCommand_113 : decode cX5_errorInCommand 113 = .ok (.iadd, 1) := by decide +kernel
theorem dX5_errorInCommand_114 : decode cX5_errorInCommand 114 = .ok (.iconst 1, 1) := by decide +kernel
theorem dX5_errorInCommand_115 : decode cX5_errorInCommand 115 = .ok (.iconst 2, 1) := by decide +kernel
theorem dX5_errorInCommand_116 : decode cX5_errorInCommand 116 = .ok (.bipush 8, 2) := by decide +kernel
theorem dX5_errorInCommand_118 : decode cX5_errorInCommand 118 = .ok (.invokevirtual 43, 3) := by decide +kernel
theorem dX5_errorInCommand_121 : decode cX5_errorInCommand 121 = .ok (.aload_n 0, 1) := by decide +kernel
theorem dX5_errorInCommand_122 : decode cX5_errorInCommand 122 = .ok (.iload_n 1, 1) := by decide +kernel
theorem dX5_errorInCommand_123 : decode cX5_errorInCommand 123 = .ok (.iconst 2, 1) := by decide +kernel
theorem dX5_errorInCommand_124 : decode cX5_errorInCommand 124 = .ok (.iadd, 1) := by decide +kernel
theorem dX5_errorInCommand_125 : decode cX5_errorInCommand 125 = .ok (.iconst 2, 1) := by decide +kernel
theorem dX5_errorInCommand_126 : decode cX5_errorInCommand 126 = .ok (.iconst 1, 1) := by decide +kernel
theorem dX5_errorInCommand_127 : decode cX5_errorInCommand 127 = .ok (.bipush 99, 2) := by decide +kernel
theorem dX5_errorInCommand_129 : decode cX5_errorInCommand 129 = .ok (.invokevirtual 43, 3) := by decide +kernel
theorem dX5_errorInCommand_132 : decode cX5_errorInCommand 132 = .ok (.invokestatic 39, 3) := by decide +kernel
theorem dX5_errorInCommand_135 : decode cX5_errorInCommand 135 = .ok (.ireturn, 1) := by decide +kernel
theorem dX5_errorInCommand_136 : decode cX5_errorInCommand 136 = .ok (.aload_n 0, 1) := by decide +kernel
theorem dX5_errorInCommand_137 : decode cX5_errorInCommand 137 = .ok (.iload_n 1, 1) := by decide +kernel
theorem dX5_errorInCommand_138 : decode cX5_errorInCommand 138 = .ok (.iconst 1, 1) := by decide +kernel
theorem dX5_errorInCommand_139 : decode cX5_errorInCommand 139 = .ok (.iadd, 1) := by decide +kernel
theorem dX5_errorInCommand_140 : decode cX5_errorInCommand 140 = .ok (.invokevirtual 47, 3) := by decide +kernel
theorem dX5_errorInCommand_143 : decode cX5_errorInCommand 143 = .ok (.ireturn, 1) := by decide +kernel
theorem dX5_errorInCommand_144 : decode cX5_errorInCommand 144 = .ok (.aload_n 0, 1) := by decide +kernel
theorem dX5_errorInCommand_145 : decode cX5_errorInCommand 145 = .ok (.iload_n 1, 1) := by decide +kernel
theorem dX5_errorInCommand_146 : decode cX5_errorInCommand 146 = .ok (.iconst 1, 1) := by decide +kernel
theorem dX5_errorInCommand_147 : decode cX5_errorInCommand 147 = .ok (.iadd, 1) := by decide +kernel
theorem dX5_errorInCommand_148 : decode cX5_errorInCommand 148 = .ok (.invokevirtual 47, 3) := by decide +kernel
theorem dX5_errorInCommand_151 : decode cX5_errorInCommand 151 = .ok (.ireturn, 1) := by decide +kernel
theorem dX5_errorInCommand_152 : decode cX5_errorInCommand 152 = .ok (.aload_n 0, 1) := by decide +kernel
theorem dX5_errorInCommand_153 : decode cX5_errorInCommand 153 = .ok (.iload_n 1, 1) := by decide +kernel
theorem dX5_errorInCommand_154 : decode cX5_errorInCommand 154 = .ok (.iconst 1, 1) := by decide +kernel
theorem dX5_errorInCommand_155 : decode cX5_errorInCommand 155 = .ok (.iadd, 1) := by decide +kernel
theorem dX5_errorInCommand_156 : decode cX5_errorInCommand 156 = .ok (.invokevirtual 47, 3) := by decide +kernel
theorem dX5_errorInCommand_159 : decode cX5_errorInCommand 159 = .ok (.aload_n 0, 1) := by decide +kernel
theorem dX5_errorInCommand_160 : decode cX5_errorInCommand 160 = .ok (.iload_n 1, 1) := by decide +kernel
theorem dX5_errorInCommand_161 : decode cX5_errorInCommand 161 = .ok (.iconst 3, 1) := by decide +kernel
theorem dX5_errorInCommand_162 : decode cX5_errorInCommand 162 = .ok (.iadd, 1) := by decide +kernel
theorem dX5_errorInCommand_163 : decode cX5_errorInCommand 163 = .ok (.invokevirtual 33, 3) := by decide +kernel
theorem dX5_errorInCommand_166 : decode cX5_errorInCommand 166 = .ok (.invokestatic 39, 3) := by decide +kernel
theorem dX5_errorInCommand_169 : decode cX5_errorInCommand 169 = .ok (.ireturn, 1) := by decide +kernel
theorem dX5_errorInCommand_170 : decode cX5_errorInCommand 170 = .ok (.aload_n 0, 1) := by decide +kernel
theorem dX5_errorInCommand_171 : decode cX5_errorInCommand 171 = .ok (.iload_n 1, 1) := by decide +kernel
theorem dX5_errorInCommand_172 : decode cX5_errorInCommand 172 = .ok (.iconst 1, 1) := by decide +kernel
theorem dX5_errorInCommand_173 : decode cX5_errorInCommand 173 = .ok (.iadd, 1) := by decide +kernel
theorem dX5_errorInCommand_174 : decode cX5_errorInCommand 174 = .ok (.iconst 1, 1) := by decide +kernel
theorem dX5_errorInCommand_175 : decode cX5_errorInCommand 175 = .ok (.iconst 0, 1) := by decide +kernel
theorem dX5_errorInCommand_176 : decode cX5_errorInCommand 176 = .ok (.iconst 2, 1) := by decide +kernel
theorem dX5_errorInCommand_177 : decode cX5_errorInCommand 177 = .ok (.invokevirtual 43, 3) := by decide +kernel
theorem dX5_errorInCommand_180 : decode cX5_errorInCommand 180 = .ok (.ireturn, 1) := by decide +kernel
theorem dX5_errorInCommand_181 : decode cX5_errorInCommand 181 = .ok (.aload_n 0, 1) := by decide +kernel
theorem dX5_errorInCommand_182 : decode cX5_errorInCommand 182 = .ok (.iload_n 1, 1) := by decide +kernel
theorem dX5_errorInCommand_183 : decode cX5_errorInCommand 183 = .ok (.iconst 1, 1) := by decide +kernel
theorem dX5_errorInCommand_184 : decode cX5_errorInCommand 184 = .ok (.iadd, 1) := by decide +kernel
theorem dX5_errorInCommand_185 : decode cX5_errorInCommand 185 = .ok (.iconst 2, 1) := by decide +kernel
theorem dX5_errorInCommand_186 : decode cX5_errorInCommand 186 = .ok (.iconst 1, 1) := by decide +kernel
theorem dX5_errorInCommand_187 : decode cX5_errorInCommand 187 = .ok (.bipush 60, 2) := by decide +kernel
theorem dX5_errorInCommand_189 : decode cX5_errorInCommand 189 = .ok (.invokevirtual 43, 3) := by decide +kernel
theorem dX5_errorInCommand_192 : decode cX5_errorInCommand 192 = .ok (.ireturn, 1) := by decide +kernel
theorem dX5_errorInCommand_193 : decode cX5_errorInCommand 193 = .ok (.iload_n 1, 1) := by decide +kernel
theorem dX5_errorInCommand_194 : decode cX5_errorInCommand 194 = .ok (.ireturn, 1) := by decide +kernel
set_option maxRecDepth 20000 in
theorem ggX5_commandSize_X5_letterAt : GoodIn wsX5_commandSize wsX5_letterAt := goodIn_r _ [5, 6, 7, 8, 9] rfl (by decide +kernel)
set_option maxRecDepth 20000 in
theorem gX5_commandSize_X5_letterAt : GoodIn wsX5_commandSize (wsV RX5 19 RX5 yX5_letterAt wsX5_letterAt) := goodIn_app (goodIn_r _ [1, 2, 3, 4] rfl (by decide +kernel)) ggX5_commandSize_X5_letterAt
theorem dX5_commandSize_0 : decode cX5_commandSize 0 = .ok (.aload_n 0, 1) := by decide +kernel
theorem dX5_commandSize_1 : decode cX5_commandSize 1 = .ok (.iload_n 1, 1) := by decide +kernel
theorem dX5_commandSize_2 : decode cX5_commandSize 2 = .ok (.invokevirtual 19, 3) := by decide +kernel
theorem dX5_commandSize_5 : decode cX5_commandSize 5 = .ok (.lookupswitch 51 #[(99, 45), (104, 43), (109, 47), (114, 49)], 43) := by decide +kernel
theorem dX5_commandSize_48 : decode cX5_commandSize 48 = .ok (.iconst 4, 1) := by decide +kernel
theorem dX5_commandSize_49 : decode cX5_commandSize 49 = .ok (.ireturn, 1) := by decide +kernel
theorem dX5_commandSize_50 : decode cX5_commandSize 50 = .ok (.iconst 4, 1) := by decide +kernel
theorem dX5_commandSize_51 : decode cX5_commandSize 51 = .ok (.ireturn, 1) := by decide +kernel
theorem dX5_commandSize_52 : decode cX5_commandSize 52 = .ok (.iconst 5, 1) := by decide +kernel
theorem dX5_commandSize_53 : decode cX5_commandSize 53 = .ok (.ireturn, 1) := by decide +kernel
theorem dX5_commandSize_54 : decode cX5_commandSize 54 = .ok (.iconst 2, 1) := by decide +kernel
theorem dX5_commandSize_55 : decode cX5_commandSize 55 = .ok (.ireturn, 1) := by decide +kernel
theorem dX5_commandSize_56 : decode cX5_commandSize 56 = .ok (.iconst 3, 1) := by decide +kernel
theorem dX5_commandSize_57 : decode cX5_commandSize 57 = .ok (.ireturn, 1) := by decide +kernel
theorem dX5_firstOf_0 : decode cX5_firstOf 0 = .ok (.iload_n 0, 1) := by decide +kernel
theorem dX5_firstOf_1 : decode cX5_firstOf 1 = .ok (.iconst (-1), 1) := by decide +kernel
theorem dX5_firstOf_2 : decode cX5_firstOf 2 = .ok (.if_icmp .eq 7, 3) := by decide +kernel
theorem dX5_firstOf_5 : decode cX5_firstOf 5 = .ok (.iload_n 0, 1) := by decide +kernel
theorem dX5_firstOf_6 : decode cX5_firstOf 6 = .ok (.goto 4, 3) := by decide +kernel
theorem dX5_firstOf_9 : decode cX5_firstOf 9 = .ok (.iload_n 1, 1) := by decide +kernel
theorem dX5_firstOf_10 : decode cX5_firstOf 10 = .ok (.ireturn, 1) := by decide +kernel
set_option maxRecDepth 20000 in
theorem ggX5_errorInCell_X5_errorInNumber : GoodIn wsX5_errorInCell wsX5_errorInNumber := goodIn_r _ [5, 6, 7, 8, 4, 9, 10, 11, 12, 13] rfl (by decide +kernel)
set_option maxRecDepth 20000 in
theorem gX5_errorInCell_X5_errorInNumber : GoodIn wsX5_errorInCell (wsV RX5 43 RX5 yX5_errorInNumber wsX5_errorInNumber) := goodIn_app (goodIn_r _ [1, 2, 3, 4] rfl (by decide +kernel)) ggX5_errorInCell_X5_errorInNumber
theorem dX5_errorInCell_0 : decode cX5_errorInCell 0 = .ok (.aload_n 0, 1) := by decide +kernel
theorem dX5_errorInCell_1 : decode cX5_errorInCell 1 = .ok (.iload_n 1, 1) := by decide +kernel
theorem dX5_errorInCell_2 : decode cX5_errorInCell 2 = .ok (.iconst 2, 1) := by decide +kernel
theorem dX5_errorInCell_3 : decode cX5_errorInCell 3 = .ok (.iconst 0, 1) := by decide +kernel
theorem dX5_errorInCell_4 : decode cX5_errorInCell 4 = .ok (.bipush 79, 2) := by decide +kernel
theorem dX5_errorInCell_6 : decode cX5_errorInCell 6 = .ok (.invokevirtual 43, 3) := by decide +kernel
theorem dX5_errorInCell_9 : decode cX5_errorInCell 9 = .ok (.ireturn, 1) := by decide +kernel
set_option maxRecDepth 20000 in
theorem ggX5_errorInCar_X5_errorInNumber : GoodIn wsX5_errorInCar wsX5_errorInNumber := goodIn_r _ [5, 6, 7, 8, 4, 9, 10, 11, 12, 13] rfl (by decide +kernel)
set_option maxRecDepth 20000 in
theorem gX5_errorInCar_X5_errorInNumber : GoodIn wsX5_errorInCar (wsV RX5 43 RX5 yX5_errorInNumber wsX5_errorInNumber) := goodIn_app (goodIn_r _ [1, 2, 3, 4] rfl (by decide +kernel)) ggX5_errorInCar_X5_errorInNumber
theorem dX5_errorInCar_0 : decode cX5_errorInCar 0 = .ok (.aload_n 0, 1) := by decide +kernel
theorem dX5_errorInCar_1 : decode cX5_errorInCar 1 = .ok (.iload_n 1, 1) := by decide +kernel
theorem dX5_errorInCar_2 : decode cX5_errorInCar 2 = .ok (.iconst 2, 1) := by decide +kernel
theorem dX5_errorInCar_3 : decode cX5_errorInCar 3 = .ok (.iconst 0, 1) := by decide +kernel
theorem dX5_errorInCar_4 : decode cX5_errorInCar 4 = .ok (.bipush 39, 2) := by decide +kernel
theorem dX5_errorInCar_6 : decode cX5_errorInCar 6 = .ok (.invokevirtual 43, 3) := by decide +kernel
theorem dX5_errorInCar_9 : decode cX5_errorInCar 9 = .ok (.ireturn, 1) := by decide +kernel
set_option maxRecDepth 20000 in
theorem ggX5_errorInSign_X5_letterAt : GoodIn wsX5_errorInSign wsX5_letterAt := goodIn_r _ [5, 6, 7, 8, 9] rfl (by decide +kernel)
set_option maxRecDepth 20000 in
theorem gX5_errorInSign_X5_letterAt : GoodIn wsX5_errorInSign (wsV RX5 19 RX5 yX5_letterAt wsX5_letterAt) := goodIn_app (goodIn_r _ [1, 2, 3, 4] rfl (by decide +kernel)) ggX5_errorInSign_X5_letterAt
theorem dX5_errorInSign_0 : decode cX5_errorInSign 0 = .ok (.aload_n 0, 1) := by decide +kernel
theorem dX5_errorInSign_1 : decode cX5_errorInSign 1 = .ok (.iload_n 1, 1) := by decide +kernel
theorem dX5_errorInSign_2 : decode cX5_errorInSign 2 = .ok (.invokevirtual 19, 3) := by decide +kernel
theorem dX5_errorInSign_5 : decode cX5_errorInSign 5 = .ok (.bipush 43, 2) := by decide +kernel
theorem dX5_errorInSign_7 : decode cX5_errorInSign 7 = .ok (.if_icmp .eq 13, 3) := by decide +kernel
theorem dX5_errorInSign_10 : decode cX5_errorInSign 10 = .ok (.aload_n 0, 1) := by decide +kernel
theorem dX5_errorInSign_11 : decode cX5_errorInSign 11 = .ok (.iload_n 1, 1) := by decide +kernel
theorem dX5_errorInSign_12 : decode cX5_errorInSign 12 = .ok (.invokevirtual 19, 3) := by decide +kernel
theorem dX5_errorInSign_15 : decode cX5_errorInSign 15 = .ok (.bipush 45, 2) := by decide +kernel
theorem dX5_errorInSign_17 : decode cX5_errorInSign 17 = .ok (.if_icmp .ne 7, 3) := by decide +kernel
theorem dX5_errorInSign_20 : decode cX5_errorInSign 20 = .ok (.iconst (-1), 1) := by decide +kernel
theorem dX5_errorInSign_21 : decode cX5_errorInSign 21 = .ok (.goto 4, 3) := by decide +kernel
theorem dX5_errorInSign_24 : decode cX5_errorInSign 24 = .ok (.iload_n 1, 1) := by decide +kernel
theorem dX5_errorInSign_25 : decode cX5_errorInSign 25 = .ok (.ireturn, 1) := by decide +kernel
set_option maxRecDepth 20000 in
theorem ggX5_errorInNumber_X5_letterAt : GoodIn wsX5_errorInNumber wsX5_letterAt := goodIn_r _ [5, 6, 7, 8, 9] rfl (by decide +kernel)
set_option maxRecDepth 20000 in
theorem gX5_errorInNumber_X5_letterAt : GoodIn wsX5_errorInNumber (wsV RX5 19 RX5 yX5_letterAt wsX5_letterAt) := goodIn_app (goodIn_r _ [1, 2, 3, 4] rfl (by decide +kernel)) ggX5_errorInNumber_X5_letterAt
theorem dX5_errorInNumber_0 : decode cX5_errorInNumber 0 = .ok (.iconst 0, 1) := by decide +kernel
theorem dX5_errorInNumber_1 : decode cX5_errorInNumber 1 = .ok (.istore 5, 2) := by decide +kernel
theorem dX5_errorInNumber_3 : decode cX5_errorInNumber 3 = .ok (.iload_n 2, 1) := by decide +kernel
theorem dX5_errorInNumber_4 : decode cX5_errorInNumber 4 = .ok (.iconst 2, 1) := by decide +kernel
theorem dX5_errorInNumber_5 : decode cX5_errorInNumber 5 = .ok (.if_icmp .ne 8, 3) := by decide +kernel
theorem dX5_errorInNumber_8 : decode cX5_errorInNumber 8 = .ok (.bipush 100, 2) := by decide +kernel
theorem dX5_errorInNumber_10 : decode cX5_errorInNumber 10 = .ok (.goto 5, 3) := by decide +kernel
theorem dX5_errorInNumber_13 : decode cX5_errorInNumber 13 = .ok (.bipush 10, 2) := by decide +kernel
theorem dX5_errorInNumber_15 : decode cX5_errorInNumber 15 = .ok (.istore 6, 2) := by decide +kernel
theorem dX5_errorInNumber_17 : decode cX5_errorInNumber 17 = .ok (.iconst 0, 1) := by decide +kernel
theorem dX5_errorInNumber_18 : decode cX5_errorInNumber 18 = .ok (.istore 7, 2) := by decide +kernel
theorem dX5_errorInNumber_20 : decode cX5_errorInNumber 20 = .ok (.iload 7, 2) := by decide +kernel
theorem dX5_errorInNumber_22 : decode cX5_errorInNumber 22 = .ok (.iload_n 2, 1) := by decide +kernel
theorem dX5_errorInNumber_23 : decode cX5_errorInNumber 23 = .ok (.if_icmp .ge 81, 3) := by decide +kernel
theorem dX5_errorInNumber_26 : decode cX5_errorInNumber 26 = .ok (.aload_n 0, 1) := by decide +kernel
theorem dX5_errorInNumber_27 : decode cX5_errorInNumber 27 = .ok (.iload_n 1, 1) := by decide +kernel
theorem dX5_errorInNumber_28 : decode cX5_errorInNumber 28 = .ok (.iload 7, 2) := by decide +kernel
theorem dX5_errorInNumber_30 : decode cX5_errorInNumber 30 = .ok (.iadd, 1) := by decide +kernel
theorem dX5_errorInNumber_31 : decode cX5_errorInNumber 31 = .ok (.invokevirtual 19, 3) := by decide +kernel
theorem dX5_errorInNumber_34 : decode cX5_errorInNumber 34 = .ok (.istore 8, 2) := by decide +kernel
theorem dX5_errorInNumber_36 : decode cX5_errorInNumber 36 = .ok (.iload 8, 2) := by decide +kernel
theorem dX5_errorInNumber_38 : decode cX5_errorInNumber 38 = .ok (.bipush 48, 2) := by decide +kernel
theorem dX5_errorInNumber_40 : decode cX5_errorInNumber 40 = .ok (.if_icmp .lt 10, 3) := by decide +kernel
theorem dX5_errorInNumber_43 : decode cX5_errorInNumber 43 = .ok (.iload 8, 2) := by decide +kernel
theorem dX5_errorInNumber_45 : decode cX5_errorInNumber 45 = .ok (.bipush 57, 2) := by decide +kernel
theorem dX5_errorInNumber_47 : decode cX5_errorInNumber 47 = .ok (.if_icmp .le 8, 3) := by decide +kernel
theorem dX5_errorInNumber_50 : decode cX5_errorInNumber 50 = .ok (.iload_n 1, 1) := by decide +kernel
theorem dX5_errorInNumber_51 : decode cX5_errorInNumber 51 = .ok (.iload 7, 2) := by decide +kernel
theorem dX5_errorInNumber_53 : decode cX5_errorInNumber 53 = .ok (.iadd, 1) := by decide +kernel
theorem dX5_errorInNumber_54 : decode cX5_errorInNumber 54 = .ok (.ireturn, 1) := by decide +kernel
theorem dX5_errorInNumber_55 : decode cX5_errorInNumber 55 = .ok (.iload 6, 2) := by decide +kernel
theorem dX5_errorInNumber_57 : decode cX5_errorInNumber 57 = .ok (.bipush 10, 2) := by decide +kernel
theorem dX5_errorInNumber_59 : decode cX5_errorInNumber 59 = .ok (.idiv, 1) := by decide +kernel
theorem dX5_errorInNumber_60 : decode cX5_errorInNumber 60 = .ok (.istore 6, 2) := by decide +kernel
theorem dX5_errorInNumber_62 : decode cX5_errorInNumber 62 = .ok (.iload 5, 2) := by decide +kernel
theorem dX5_errorInNumber_64 : decode cX5_errorInNumber 64 = .ok (.iload 8, 2) := by decide +kernel
theorem dX5_errorInNumber_66 : decode cX5_errorInNumber 66 = .ok (.bipush 48, 2) := by decide +kernel
theorem dX5_errorInNumber_68 : decode cX5_errorInNumber 68 = .ok (.isub, 1) := by decide +kernel
theorem dX5_errorInNumber_69 : decode cX5_errorInNumber 69 = .ok (.iload 6, 2) := by decide +kernel
theorem dX5_errorInNumber_71 : decode cX5_errorInNumber 71 = .ok (.imul, 1) := by decide +kernel
theorem dX5_errorInNumber_72 : decode cX5_errorInNumber 72 = .ok (.iadd, 1) := by decide +kernel
theorem dX5_errorInNumber_73 : decode cX5_errorInNumber 73 = .ok (.istore 5, 2) := by decide +kernel
theorem dX5_errorInNumber_75 : decode cX5_errorInNumber 75 = .ok (.iload 5, 2) := by decide +kernel
theorem dX5_errorInNumber_77 : decode cX5_errorInNumber 77 = .ok (.iload 4, 2) := by decide +kernel
theorem dX5_errorInNumber_79 : decode cX5_errorInNumber 79 = .ok (.if_icmp .gt 14, 3) := by decide +kernel
theorem dX5_errorInNumber_82 : decode cX5_errorInNumber 82 = .ok (.iload 5, 2) := by decide +kernel
theorem dX5_errorInNumber_84 : decode cX5_errorInNumber 84 = .ok (.iload 6, 2) := by decide +kernel
theorem dX5_errorInNumber_86 : decode cX5_errorInNumber 86 = .ok (.iadd, 1) := by decide +kernel
theorem dX5_errorInNumber_87 : decode cX5_errorInNumber 87 = .ok (.iconst 1, 1) := by decide +kernel
theorem dX5_errorInNumber_88 : decode cX5_errorInNumber 88 = .ok (.isub, 1) := by decide +kernel
theorem dX5_errorInNumber_89 : decode cX5_errorInNumber 89 = .ok (.iload_n 3, 1) := by decide +kernel
theorem dX5_errorInNumber_90 : decode cX5_errorInNumber 90 = .ok (.if_icmp .ge 8, 3) := by decide +kernel
theorem dX5_errorInNumber_93 : decode cX5_errorInNumber 93 = .ok (.iload_n 1, 1) := by decide +kernel
theorem dX5_errorInNumber_94 : decode cX5_errorInNumber 94 = .ok (.iload 7, 2) := by decide +kernel
theorem dX5_errorInNumber_96 : decode cX5_errorInNumber 96 = .ok (.iadd, 1) := by decide +kernel
theorem dX5_errorInNumber_97 : decode cX5_errorInNumber 97 = .ok (.ireturn, 1) := by decide +kernel
theorem dX5_errorInNumber_98 : decode cX5_errorInNumber 98 = .ok (.iinc 7 1, 3) := by decide +kernel
theorem dX5_errorInNumber_101 : decode cX5_errorInNumber 101 = .ok (.goto (-81), 3) := by decide +kernel
theorem dX5_errorInNumber_104 : decode cX5_errorInNumber 104 = .ok (.iconst (-1), 1) := by decide +kernel
theorem dX5_errorInNumber_105 : decode cX5_errorInNumber 105 = .ok (.ireturn, 1) := by decide +kernel
set_option maxRecDepth 20000 in
theorem ggX5_doCommand_X5_letterAt : GoodIn wsX5_doCommand wsX5_letterAt := goodIn_r _ [5, 6, 7, 149, 150] rfl (by decide +kernel)
set_option maxRecDepth 20000 in
theorem gX5_doCommand_X5_letterAt : GoodIn wsX5_doCommand (wsV RX5 19 RX5 yX5_letterAt wsX5_letterAt) := goodIn_app (goodIn_r _ [1, 2, 3, 4] rfl (by decide +kernel)) ggX5_doCommand_X5_letterAt
set_option maxRecDepth 20000 in
theorem ggX5_doCommand_X5_twoDigits : GoodIn wsX5_doCommand wsX5_twoDigits := goodIn_r _ [11, 12, 13, 14, 4, 15, 1, 2, 3, 5, 6, 7, 149, 150] rfl (by decide +kernel)
set_option maxRecDepth 20000 in
theorem gX5_doCommand_X5_twoDigits : GoodIn wsX5_doCommand (wsV RX5 50 RX5 yX5_twoDigits wsX5_twoDigits) := goodIn_app (goodIn_r _ [8, 9, 10, 4] rfl (by decide +kernel)) ggX5_doCommand_X5_twoDigits
set_option maxRecDepth 20000 in
theorem ggX5_doCommand_X4_putHydrant : GoodIn wsX5_doCommand wsX4_putHydrant := goodIn_r _ [19, 20, 21, 22, 23, 17, 24, 25, 26, 27, 28, 29, 30, 31, 32, 33, 34, 35, 36, 37, 38, 39, 40, 41, 42, 43, 44, 45, 46, 47, 48, 151, 152, 153, 154, 155, 156, 157, 158, 159, 160, 161, 162, 163, 164] rfl (by decide +kernel)
set_option maxRecDepth 20000 in
theorem gX5_doCommand_X4_putHydrant_n53 : GoodIn wsX5_doCommand (wsX4_putHydrant) := ggX5_doCommand_X4_putHydrant
set_option maxRecDepth 20000 in
theorem ggX5_doCommand_X5_digit : GoodIn wsX5_doCommand wsX5_digit := goodIn_r _ [15, 1, 2, 3, 4, 5, 6, 7, 149, 150] rfl (by decide +kernel)
set_option maxRecDepth 20000 in
theorem gX5_doCommand_X5_digit : GoodIn wsX5_doCommand (wsV RX5 59 RX5 yX5_digit wsX5_digit) := goodIn_app (goodIn_r _ [12, 13, 14, 4] rfl (by decide +kernel)) ggX5_doCommand_X5_digit
set_option maxRecDepth 20000 in
theorem ggX5_doCommand_X4_arrive : GoodIn wsX5_doCommand wsX4_arrive := goodIn_r _ [51, 52, 53, 54, 55, 56, 57, 58, 59, 26, 60, 61, 62, 63, 64, 65, 17, 66, 38, 39, 67, 68, 69, 70, 32, 33, 71, 72, 73, 74, 75, 76, 77, 78, 79, 80, 81, 82, 83, 84, 44, 85, 86, 87, 88, 89, 90, 91, 92, 93, 94, 95, 96, 97, 34, 35, 36, 37, 20, 40, 41, 42, 43, 151, 152, 153, 154, 155, 156, 157, 158, 159, 160, 161, 162, 163, 164] rfl (by decide +kernel)
set_option maxRecDepth 20000 in
theorem gX5_doCommand_X4_arrive_n62 : GoodIn wsX5_doCommand (wsX4_arrive) := ggX5_doCommand_X4_arrive
set_option maxRecDepth 20000 in
theorem ggX5_doCommand_X4_depart : GoodIn wsX5_doCommand wsX4_depart := goodIn_r _ [100, 56, 53, 55, 101, 102, 103, 17, 104, 105, 106, 107, 108, 52, 32, 26, 33, 34, 35, 36, 37, 20, 38, 39, 40, 41, 42, 43, 44, 151, 152, 153, 154, 155, 156, 157, 158, 159, 160, 161, 162, 163, 164] rfl (by decide +kernel)
set_option maxRecDepth 20000 in
theorem gX5_doCommand_X4_depart_n65 : GoodIn wsX5_doCommand (wsX4_depart) := ggX5_doCommand_X4_depart
set_option maxRecDepth 20000 in
theorem ggX5_doCommand_X4_shift : GoodIn wsX5_doCommand wsX4_shift := goodIn_r _ [111, 56, 53, 112, 113, 114, 17, 115, 20, 32, 26, 33, 101, 102, 103, 104, 55, 105, 106, 107, 108, 52, 25, 27, 28, 29, 30, 31, 34, 35, 36, 37, 38, 39, 40, 41, 42, 43, 44, 151, 152, 153, 154, 155, 156, 157, 158, 159, 160, 161, 162, 163, 164] rfl (by decide +kernel)
set_option maxRecDepth 20000 in
theorem gX5_doCommand_X4_shift_n68 : GoodIn wsX5_doCommand (wsX4_shift) := ggX5_doCommand_X4_shift
set_option maxRecDepth 20000 in
theorem ggX5_doCommand_X4_changeSetting : GoodIn wsX5_doCommand wsX4_changeSetting := goodIn_r _ [118, 75, 85, 119, 120, 26, 121, 122, 123, 124, 17, 125, 151, 152, 153, 154, 155, 156, 157, 158, 159, 160, 161, 162, 163, 164] rfl (by decide +kernel)
set_option maxRecDepth 20000 in
theorem gX5_doCommand_X4_changeSetting_n71 : GoodIn wsX5_doCommand (wsX4_changeSetting) := ggX5_doCommand_X4_changeSetting
set_option maxRecDepth 20000 in
theorem ggX5_doCommand_X4_passMinutes : GoodIn wsX5_doCommand wsX4_passMinutes := goodIn_r _ [128, 129, 130, 26, 131, 132, 133, 134, 17, 135, 52, 57, 101, 102, 103, 104, 55, 105, 106, 107, 108, 32, 33, 38, 39, 136, 137, 138, 139, 54, 140, 98, 99, 100, 56, 53, 34, 35, 36, 37, 20, 40, 41, 42, 43, 44, 141, 142, 143, 144, 67, 68, 69, 70, 71, 72, 73, 74, 75, 76, 77, 78, 79, 80, 81, 82, 83, 84, 85, 86, 87, 88, 89, 90, 91, 92, 93, 94, 95, 96, 97, 145, 146, 147, 148, 58, 119, 151, 152, 153, 154, 155, 156, 157, 158, 159, 160, 161, 162, 163, 164] rfl (by decide +kernel)
set_option maxRecDepth 20000 in
theorem gX5_doCommand_X4_passMinutes_n74 : GoodIn wsX5_doCommand (wsX4_passMinutes) := ggX5_doCommand_X4_passMinutes
theorem dX5_doCommand_0 : decode cX5_doCommand 0 = .ok (.aload_n 2, 1) := by decide +kernel
theorem dX5_doCommand_1 : decode cX5_doCommand 1 = .ok (.ifnonnull 5, 3) := by decide +kernel
theorem dX5_doCommand_4 : decode cX5_doCommand 4 = .ok (.iconst (-1), 1) := by decide +kernel
theorem dX5_doCommand_5 : decode cX5_doCommand 5 = .ok (.ireturn, 1) := by decide +kernel
theorem dX5_doCommand_6 : decode cX5_doCommand 6 = .ok (.aload_n 0, 1) := by decide +kernel
theorem dX5_doCommand_7 : decode cX5_doCommand 7 = .ok (.iload_n 1, 1) := by decide +kernel
theorem dX5_doCommand_8 : decode cX5_doCommand 8 = .ok (.invokevirtual 19, 3) := by decide +kernel
theorem dX5_doCommand_11 : decode cX5_doCommand 11 = .ok (.tableswitch 203 99 116 #[114, 203, 203, 203, 203, 85, 203, 203, 203, 133, 159, 203, 203, 191, 203, 178, 203, 146], 85) := by decide +kernel
theorem dX5_doCommand_96 : decode cX5_doCommand 96 = .ok (.aload_n 2, 1) := by decide +kernel
theorem dX5_doCommand_97 : decode cX5_doCommand 97 = .ok (.aload_n 0, 1) := by decide +kernel
theorem dX5_doCommand_98 : decode cX5_doCommand 98 = .ok (.iload_n 1, 1) := by decide +kernel
theorem dX5_doCommand_99 : decode cX5_doCommand 99 = .ok (.iconst 1, 1) := by decide +kernel
theorem dX5_doCommand_100 : decode cX5_doCommand 100 = .ok (.iadd, 1) := by decide +kernel
theorem dX5_doCommand_101 : decode cX5_doCommand 101 = .ok (.invokevirtual 50, 3) := by decide +kernel
theorem dX5_doCommand_104 : decode cX5_doCommand 104 = .ok (.aload_n 0, 1) := by decide +kernel
theorem dX5_doCommand_105 : decode cX5_doCommand 105 = .ok (.iload_n 1, 1) := by decide +kernel
theorem dX5_doCommand_106 : decode cX5_doCommand 106 = .ok (.iconst 3, 1) := by decide +kernel
theorem dX5_doCommand_107 : decode cX5_doCommand 107 = .ok (.iadd, 1) := by decide +kernel
theorem dX5_doCommand_108 : decode cX5_doCommand 108 = .ok (.invokevirtual 19, 3) := by decide +kernel
theorem dX5_doCommand_111 : decode cX5_doCommand 111 = .ok (.bipush 43, 2) := by decide +kernel
theorem dX5_doCommand_113 : decode cX5_doCommand 113 = .ok (.if_icmp .ne 7, 3) := by decide +kernel
theorem dX5_doCommand_116 : decode cX5_doCommand 116 = .ok (.iconst 1, 1) := by decide +kernel
theorem dX5_doCommand_117 : decode cX5_doCommand 117 = .ok (.goto 4, 3) := by decide +kernel
theorem dX5_doCommand_120 : decode cX5_doCommand 120 = .ok (.iconst 0, 1) := by decide +kernel
theorem dX5_doCommand_121 : decode cX5_doCommand 121 = .ok (.invokevirtual 53, 3) := by decide +kernel
theorem dX5_doCommand_124 : decode cX5_doCommand 124 = .ok (.ireturn, 1) := by decide +kernel
theorem dX5_doCommand_125 : decode cX5_doCommand 125 = .ok (.aload_n 2, 1) := by decide +kernel
theorem dX5_doCommand_126 : decode cX5_doCommand 126 = .ok (.aload_n 0, 1) := by decide +kernel
theorem dX5_doCommand_127 : decode cX5_doCommand 127 = .ok (.iload_n 1, 1) := by decide +kernel
theorem dX5_doCommand_128 : decode cX5_doCommand 128 = .ok (.iconst 1, 1) := by decide +kernel
theorem dX5_doCommand_129 : decode cX5_doCommand 129 = .ok (.iadd, 1) := by decide +kernel
theorem dX5_doCommand_130 : decode cX5_doCommand 130 = .ok (.invokevirtual 59, 3) := by decide +kernel
theorem dX5_doCommand_133 : decode cX5_doCommand 133 = .ok (.aload_n 0, 1) := by decide +kernel
theorem dX5_doCommand_134 : decode cX5_doCommand 134 = .ok (.iload_n 1, 1) := by decide +kernel
theorem dX5_doCommand_135 : decode cX5_doCommand 135 = .ok (.iconst 2, 1) := by decide +kernel
theorem dX5_doCommand_136 : decode cX5_doCommand 136 = .ok (.iadd, 1) := by decide +kernel
theorem dX5_doCommand_137 : decode cX5_doCommand 137 = .ok (.invokevirtual 50, 3) := by decide +kernel
theorem dX5_doCommand_140 : decode cX5_doCommand 140 = .ok (.invokevirtual 62, 3) := by decide +kernel
theorem dX5_doCommand_143 : decode cX5_doCommand 143 = .ok (.ireturn, 1) := by decide +kernel
theorem dX5_doCommand_144 : decode cX5_doCommand 144 = .ok (.aload_n 2, 1) := by decide +kernel
theorem dX5_doCommand_145 : decode cX5_doCommand 145 = .ok (.aload_n 0, 1) := by decide +kernel
theorem dX5_doCommand_146 : decode cX5_doCommand 146 = .ok (.iload_n 1, 1) := by decide +kernel
theorem dX5_doCommand_147 : decode cX5_doCommand 147 = .ok (.iconst 1, 1) := by decide +kernel
theorem dX5_doCommand_148 : decode cX5_doCommand 148 = .ok (.iadd, 1) := by decide +kernel
theorem dX5_doCommand_149 : decode cX5_doCommand 149 = .ok (.invokevirtual 50, 3) := by decide +kernel
theorem dX5_doCommand_152 : decode cX5_doCommand 152 = .ok (.iconst 2, 1) := by decide +kernel
theorem dX5_doCommand_153 : decode cX5_doCommand 153 = .ok (.invokevirtual 65, 3) := by decide +kernel
theorem dX5_doCommand_156 : decode cX5_doCommand 156 = .ok (.ireturn, 1) := by decide +kernel
theorem dX5_doCommand_157 : decode cX5_doCommand 157 = .ok (.aload_n 2, 1) := by decide +kernel
theorem dX5_doCommand_158 : decode cX5_doCommand 158 = .ok (.aload_n 0, 1) := by decide +kernel
theorem dX5_doCommand_159 : decode cX5_doCommand 159 = .ok (.iload_n 1, 1) := by decide +kernel
theorem dX5_doCommand_160 : decode cX5_doCommand 160 = .ok (.iconst 1, 1) := by decide +kernel
theorem dX5_doCommand_161 : decode cX5_doCommand 161 = .ok (.iadd, 1) := by decide +kernel
theorem dX5_doCommand_162 : decode cX5_doCommand 162 = .ok (.invokevirtual 50, 3) := by decide +kernel
theorem dX5_doCommand_165 : decode cX5_doCommand 165 = .ok (.iconst 4, 1) := by decide +kernel
theorem dX5_doCommand_166 : decode cX5_doCommand 166 = .ok (.invokevirtual 65, 3) := by decide +kernel
theorem dX5_doCommand_169 : decode cX5_doCommand 169 = .ok (.ireturn, 1) := by decide +kernel
theorem dX5_doCommand_170 : decode cX5_doCommand 170 = .ok (.aload_n 2, 1) := by decide +kernel
theorem dX5_doCommand_171 : decode cX5_doCommand 171 = .ok (.aload_n 0, 1) := by decide +kernel
theorem dX5_doCommand_172 : decode cX5_doCommand 172 = .ok (.iload_n 1, 1) := by decide +kernel
theorem dX5_doCommand_173 : decode cX5_doCommand 173 = .ok (.iconst 1, 1) := by decide +kernel
theorem dX5_doCommand_174 : decode cX5_doCommand 174 = .ok (.iadd, 1) := by decide +kernel
theorem dX5_doCommand_175 : decode cX5_doCommand 175 = .ok (.invokevirtual 50, 3) := by decide +kernel
theorem dX5_doCommand_178 : decode cX5_doCommand 178 = .ok (.aload_n 0, 1) := by decide +kernel
theorem dX5_doCommand_179 : decode cX5_doCommand 179 = .ok (.iload_n 1, 1) := by decide +kernel
theorem dX5_doCommand_180 : decode cX5_doCommand 180 = .ok (.iconst 3, 1) := by decide +kernel
theorem dX5_doCommand_181 : decode cX5_doCommand 181 = .ok (.iadd, 1) := by decide +kernel
theorem dX5_doCommand_182 : decode cX5_doCommand 182 = .ok (.invokevirtual 50, 3) := by decide +kernel
theorem dX5_doCommand_185 : decode cX5_doCommand 185 = .ok (.invokevirtual 68, 3) := by decide +kernel
theorem dX5_doCommand_188 : decode cX5_doCommand 188 = .ok (.ireturn, 1) := by decide +kernel
theorem dX5_doCommand_189 : decode cX5_doCommand 189 = .ok (.aload_n 2, 1) := by decide +kernel
theorem dX5_doCommand_190 : decode cX5_doCommand 190 = .ok (.iconst 0, 1) := by decide +kernel
theorem dX5_doCommand_191 : decode cX5_doCommand 191 = .ok (.aload_n 0, 1) := by decide +kernel
theorem dX5_doCommand_192 : decode cX5_doCommand 192 = .ok (.iload_n 1, 1) := by decide +kernel
theorem dX5_doCommand_193 : decode cX5_doCommand 193 = .ok (.iconst 1, 1) := by decide +kernel
theorem dX5_doCommand_194 : decode cX5_doCommand 194 = .ok (.iadd, 1) := by decide +kernel
theorem dX5_doCommand_195 : decode cX5_doCommand 195 = .ok (.invokevirtual 59, 3) := by decide +kernel
theorem dX5_doCommand_198 : decode cX5_doCommand 198 = .ok (.invokevirtual 71, 3) := by decide +kernel
theorem dX5_doCommand_201 : decode cX5_doCommand 201 = .ok (.ireturn, 1) := by decide +kernel
theorem dX5_doCommand_202 : decode cX5_doCommand 202 = .ok (.aload_n 2, 1) := by decide +kernel
theorem dX5_doCommand_203 : decode cX5_doCommand 203 = .ok (.aload_n 0, 1) := by decide +kernel
theorem dX5_doCommand_204 : decode cX5_doCommand 204 = .ok (.iload_n 1, 1) := by decide +kernel
theorem dX5_doCommand_205 : decode cX5_doCommand 205 = .ok (.iconst 1, 1) := by decide +kernel
theorem dX5_doCommand_206 : decode cX5_doCommand 206 = .ok (.iadd, 1) := by decide +kernel
theorem dX5_doCommand_207 : decode cX5_doCommand 207 = .ok (.invokevirtual 50, 3) := by decide +kernel
theorem dX5_doCommand_210 : decode cX5_doCommand 210 = .ok (.invokevirtual 74, 3) := by decide +kernel
theorem dX5_doCommand_213 : decode cX5_doCommand 213 = .ok (.ireturn, 1) := by decide +kernel
theorem dX5_doCommand_214 : decode cX5_doCommand 214 = .ok (.iconst (-1), 1) := by decide +kernel
theorem dX5_doCommand_215 : decode cX5_doCommand 215 = .ok (.ireturn, 1) := by decide +kernel
set_option maxRecDepth 20000 in
theorem ggX5_digit_X5_letterAt : GoodIn wsX5_digit wsX5_letterAt := goodIn_r _ [5, 6, 7, 8, 9] rfl (by decide +kernel)
set_option maxRecDepth 20000 in
theorem gX5_digit_X5_letterAt : GoodIn wsX5_digit (wsV RX5 19 RX5 yX5_letterAt wsX5_letterAt) := goodIn_app (goodIn_r _ [1, 2, 3, 4] rfl (by decide +kernel)) ggX5_digit_X5_letterAt
theorem dX5_digit_0 : decode cX5_digit 0 = .ok (.aload_n 0, 1) := by decide +kernel
theorem dX5_digit_1 : decode cX5_digit 1 = .ok (.iload_n 1, 1) := by decide +kernel
theorem dX5_digit_2 : decode cX5_digit 2 = .ok (.invokevirtual 19, 3) := by decide +kernel
theorem dX5_digit_5 : decode cX5_digit 5 = .ok (.bipush 48, 2) := by decide +kernel
theorem dX5_digit_7 : decode cX5_digit 7 = .ok (.isub, 1) := by decide +kernel
theorem dX5_digit_8 : decode cX5_digit 8 = .ok (.ireturn, 1) := by decide +kernel
set_option maxRecDepth 20000 in
theorem ggX5_twoDigits_X5_digit : GoodIn wsX5_twoDigits wsX5_digit := goodIn_r _ [5, 6, 7, 8, 4, 9, 10, 11, 12, 13] rfl (by decide +kernel)
set_option maxRecDepth 20000 in
theorem gX5_twoDigits_X5_digit : GoodIn wsX5_twoDigits (wsV RX5 59 RX5 yX5_digit wsX5_digit) := goodIn_app (goodIn_r _ [1, 2, 3, 4] rfl (by decide +kernel)) ggX5_twoDigits_X5_digit
theorem dX5_twoDigits_0 : decode cX5_twoDigits 0 = .ok (.bipush 10, 2) := by decide +kernel
theorem dX5_twoDigits_2 : decode cX5_twoDigits 2 = .ok (.aload_n 0, 1) := by decide +kernel
theorem dX5_twoDigits_3 : decode cX5_twoDigits 3 = .ok (.iload_n 1, 1) := by decide +kernel
theorem dX5_twoDigits_4 : decode cX5_twoDigits 4 = .ok (.invokevirtual 59, 3) := by decide +kernel
theorem dX5_twoDigits_7 : decode cX5_twoDigits 7 = .ok (.imul, 1) := by decide +kernel
theorem dX5_twoDigits_8 : decode cX5_twoDigits 8 = .ok (.aload_n 0, 1) := by decide +kernel
theorem dX5_twoDigits_9 : decode cX5_twoDigits 9 = .ok (.iload_n 1, 1) := by decide +kernel
theorem dX5_twoDigits_10 : decode cX5_twoDigits 10 = .ok (.iconst 1, 1) := by decide +kernel
theorem dX5_twoDigits_11 : decode cX5_twoDigits 11 = .ok (.iadd, 1) := by decide +kernel
theorem dX5_twoDigits_12 : decode cX5_twoDigits 12 = .ok (.invokevirtual 59, 3) := by decide +kernel
theorem dX5_twoDigits_15 : decode cX5_twoDigits 15 = .ok (.iadd, 1) := by decide +kernel
theorem dX5_twoDigits_16 : decode cX5_twoDigits 16 = .ok (.ireturn, 1) := by decide +kernel
set_option maxRecDepth 20000 in
theorem ggX6_init_X5_init : GoodIn wsX6_init wsX5_init := goodIn_r _ [22, 23, 2, 3, 24, 25, 68, 69] rfl (by decide +kernel)
set_option maxRecDepth 20000 in
theorem gX6_init_X5_init_n9 : GoodIn wsX6_init (wsX5_init) := ggX6_init_X5_init
set_option maxRecDepth 20000 in
theorem ggX6_init_X4_init : GoodIn wsX6_init wsX4_init := goodIn_r _ [27, 28, 2, 3, 29, 30, 31, 32, 33, 34, 35, 36, 37, 38, 39, 40, 10, 41, 42, 43, 44, 45, 46, 47, 48, 49, 50, 51, 52, 53, 54, 55, 75, 76, 77, 78, 79, 80, 81, 82, 83, 84, 85, 86, 87, 88] rfl (by decide +kernel)
set_option maxRecDepth 20000 in
theorem gX6_init_X4_init_n18 : GoodIn wsX6_init (wsX4_init) := ggX6_init_X4_init
set_option maxRecDepth 20000 in
theorem ggX6_init_X0_init : GoodIn wsX6_init wsX0_init := goodIn_r _ [57, 58, 2, 3, 59, 60, 9, 10, 26, 27, 28, 29, 30, 31, 32, 33, 34, 35, 36, 37, 38, 39, 40, 41, 42, 43, 44, 45, 46, 47, 48, 49, 50, 51, 52, 53, 54, 55, 89, 90, 91, 75, 76, 77, 78, 79, 80, 81, 82, 83, 84, 85, 86, 87, 88] rfl (by decide +kernel)
set_option maxRecDepth 20000 in
theorem gX6_init_X0_init_n28 : GoodIn wsX6_init (wsX0_init) := ggX6_init_X0_init
set_option maxRecDepth 20000 in
theorem ggX6_init_X1_init : GoodIn wsX6_init wsX1_init := goodIn_r _ [62, 63, 2, 3, 64, 65, 66, 67, 9, 10, 26, 27, 28, 29, 30, 31, 32, 33, 34, 35, 36, 37, 38, 39, 40, 41, 42, 43, 44, 45, 46, 47, 48, 49, 50, 51, 52, 53, 54, 55, 92, 93, 75, 76, 77, 78, 79, 80, 81, 82, 83, 84, 85, 86, 87, 88] rfl (by decide +kernel)
set_option maxRecDepth 20000 in
theorem gX6_init_X1_init_n35 : GoodIn wsX6_init (wsX1_init) := ggX6_init_X1_init
theorem dX6_init_0 : decode cX6_init 0 = .ok (.aload_n 0, 1) := by decide +kernel
theorem dX6_init_1 : decode cX6_init 1 = .ok (.invokespecial 1, 3) := by decide +kernel
theorem dX6_init_4 : decode cX6_init 4 = .ok (.aload_n 0, 1) := by decide +kernel
theorem dX6_init_5 : decode cX6_init 5 = .ok (.new 7, 3) := by decide +kernel
theorem dX6_init_8 : decode cX6_init 8 = .ok (.dup, 1) := by decide +kernel
theorem dX6_init_9 : decode cX6_init 9 = .ok (.invokespecial 9, 3) := by decide +kernel
theorem dX6_init_12 : decode cX6_init 12 = .ok (.putfield 10, 3) := by decide +kernel
theorem dX6_init_15 : decode cX6_init 15 = .ok (.aload_n 0, 1) := by decide +kernel
theorem dX6_init_16 : decode cX6_init 16 = .ok (.new 16, 3) := by decide +kernel
theorem dX6_init_19 : decode cX6_init 19 = .ok (.dup, 1) := by decide +kernel
theorem dX6_init_20 : decode cX6_init 20 = .ok (.invokespecial 18, 3) := by decide +kernel
theorem dX6_init_23 : decode cX6_init 23 = .ok (.putfield 19, 3) := by decide +kernel
theorem dX6_init_26 : decode cX6_init 26 = .ok (.aload_n 0, 1) := by decide +kernel
theorem dX6_init_27 : decode cX6_init 27 = .ok (.new 16, 3) := by decide +kernel
theorem dX6_init_30 : decode cX6_init 30 = .ok (.dup, 1) := by decide +kernel
theorem dX6_init_31 : decode cX6_init 31 = .ok (.invokespecial 18, 3) := by decide +kernel
theorem dX6_init_34 : decode cX6_init 34 = .ok (.putfield 23, 3) := by decide +kernel
theorem dX6_init_37 : decode cX6_init 37 = .ok (.aload_n 0, 1) := by decide +kernel
theorem dX6_init_38 : decode cX6_init 38 = .ok (.new 26, 3) := by decide +kernel
theorem dX6_init_41 : decode cX6_init 41 = .ok (.dup, 1) := by decide +kernel
theorem dX6_init_42 : decode cX6_init 42 = .ok (.invokespecial 28, 3) := by decide +kernel
theorem dX6_init_45 : decode cX6_init 45 = .ok (.putfield 29, 3) := by decide +kernel
theorem dX6_init_48 : decode cX6_init 48 = .ok (.aload_n 0, 1) := by decide +kernel
theorem dX6_init_49 : decode cX6_init 49 = .ok (.new 33, 3) := by decide +kernel
theorem dX6_init_52 : decode cX6_init 52 = .ok (.dup, 1) := by decide +kernel
theorem dX6_init_53 : decode cX6_init 53 = .ok (.invokespecial 35, 3) := by decide +kernel
theorem dX6_init_56 : decode cX6_init 56 = .ok (.putfield 36, 3) := by decide +kernel
theorem dX6_init_59 : decode cX6_init 59 = .ok (.return_, 1) := by decide +kernel
set_option maxRecDepth 20000 in
theorem ggX6_append_X5_isFull : GoodIn wsX6_append wsX5_isFull := goodIn_r _ [9, 10, 20, 21] rfl (by decide +kernel)
set_option maxRecDepth 20000 in
theorem gX6_append_X5_isFull_n47 : GoodIn wsX6_append (wsX5_isFull) := ggX6_append_X5_isFull
set_option maxRecDepth 20000 in
theorem ggX6_append_X5_add : GoodIn wsX6_append wsX5_add := goodIn_r _ [13, 10, 14, 20, 21] rfl (by decide +kernel)
set_option maxRecDepth 20000 in
theorem gX6_append_X5_add_n56 : GoodIn wsX6_append (wsX5_add) := ggX6_append_X5_add
theorem dX6_append_0 : decode cX6_append 0 = .ok (.iload_n 1, 1) := by decide +kernel
theorem dX6_append_1 : decode cX6_append 1 = .ok (.ifCond .lt 10, 3) := by decide +kernel
theorem dX6_append_4 : decode cX6_append 4 = .ok (.iload_n 1, 1) := by decide +kernel
theorem dX6_append_5 : decode cX6_append 5 = .ok (.sipush 255, 3) := by decide +kernel
theorem dX6_append_8 : decode cX6_append 8 = .ok (.if_icmp .le 13, 3) := by decide +kernel
theorem dX6_append_11 : decode cX6_append 11 = .ok (.new 40, 3) := by decide +kernel
theorem dX6_append_14 : decode cX6_append 14 = .ok (.dup, 1) := by decide +kernel
theorem dX6_append_15 : decode cX6_append 15 = .ok (.ldc 42, 2) := by decide +kernel
theorem dX6_append_17 : decode cX6_append 17 = .ok (.invokespecial 44, 3) := by decide +kernel
theorem dX6_append_20 : decode cX6_append 20 = .ok (.athrow, 1) := by decide +kernel
theorem dX6_append_21 : decode cX6_append 21 = .ok (.aload_n 0, 1) := by decide +kernel
theorem dX6_append_22 : decode cX6_append 22 = .ok (.getfield 10, 3) := by decide +kernel
theorem dX6_append_25 : decode cX6_append 25 = .ok (.invokevirtual 47, 3) := by decide +kernel
theorem dX6_append_28 : decode cX6_append 28 = .ok (.ifCond .eq 13, 3) := by decide +kernel
theorem dX6_append_31 : decode cX6_append 31 = .ok (.new 51, 3) := by decide +kernel
theorem dX6_append_34 : decode cX6_append 34 = .ok (.dup, 1) := by decide +kernel
theorem dX6_append_35 : decode cX6_append 35 = .ok (.ldc 53, 2) := by decide +kernel
theorem dX6_append_37 : decode cX6_append 37 = .ok (.invokespecial 55, 3) := by decide +kernel
theorem dX6_append_40 : decode cX6_append 40 = .ok (.athrow, 1) := by decide +kernel
theorem dX6_append_41 : decode cX6_append 41 = .ok (.aload_n 0, 1) := by decide +kernel
theorem dX6_append_42 : decode cX6_append 42 = .ok (.getfield 10, 3) := by decide +kernel
theorem dX6_append_45 : decode cX6_append 45 = .ok (.iload_n 1, 1) := by decide +kernel
theorem dX6_append_46 : decode cX6_append 46 = .ok (.i2c, 1) := by decide +kernel
theorem dX6_append_47 : decode cX6_append 47 = .ok (.invokevirtual 56, 3) := by decide +kernel
theorem dX6_append_50 : decode cX6_append 50 = .ok (.ireturn, 1) := by decide +kernel
set_option maxRecDepth 20000 in
theorem ggX6_load_X5_firstError : GoodIn wsX6_load wsX5_firstError := goodIn_r _ [10, 11, 12, 13, 8, 14, 15, 16, 17, 18, 19, 20, 21, 22, 23, 24, 25, 26, 27, 28, 29, 30, 31, 32, 33, 34, 35, 36, 37, 38, 39, 40, 41, 42, 43, 44, 45, 46, 47, 214, 215] rfl (by decide +kernel)
set_option maxRecDepth 20000 in
theorem gX6_load_X5_firstError_n64 : GoodIn wsX6_load (wsX5_firstError) := ggX6_load_X5_firstError
set_option maxRecDepth 20000 in
theorem ggX6_load_X4_makeNew : GoodIn wsX6_load wsX4_makeNew := goodIn_r _ [51, 52, 53, 54, 55, 56, 57, 58, 59, 60, 61, 62, 63, 64, 65, 49, 66, 67, 216, 217, 218, 219, 220, 221, 222, 223, 224, 225, 226, 227, 228, 229] rfl (by decide +kernel)
set_option maxRecDepth 20000 in
theorem gX6_load_X4_makeNew_n69 : GoodIn wsX6_load (wsX4_makeNew) := ggX6_load_X4_makeNew
set_option maxRecDepth 20000 in
theorem ggX6_load_X0_forget : GoodIn wsX6_load wsX0_forget := goodIn_r _ [71, 72, 230, 231, 232] rfl (by decide +kernel)
set_option maxRecDepth 20000 in
theorem gX6_load_X0_forget_n72 : GoodIn wsX6_load (wsX0_forget) := ggX6_load_X0_forget
set_option maxRecDepth 20000 in
theorem ggX6_load_X1_empty : GoodIn wsX6_load wsX1_empty := goodIn_r _ [76, 77, 233, 234] rfl (by decide +kernel)
set_option maxRecDepth 20000 in
theorem gX6_load_X1_empty_n75 : GoodIn wsX6_load (wsX1_empty) := ggX6_load_X1_empty
set_option maxRecDepth 20000 in
theorem ggX6_load_X5_hasLetter : GoodIn wsX6_load wsX5_hasLetter := goodIn_r _ [20, 15, 214, 215] rfl (by decide +kernel)
set_option maxRecDepth 20000 in
theorem gX6_load_X5_hasLetter_n77 : GoodIn wsX6_load (wsX5_hasLetter) := ggX6_load_X5_hasLetter
set_option maxRecDepth 20000 in
theorem ggX6_load_X5_doCommand : GoodIn wsX6_load wsX5_doCommand := goodIn_r _ [80, 11, 12, 13, 8, 14, 15, 16, 81, 82, 83, 84, 85, 86, 87, 88, 89, 49, 90, 91, 52, 92, 93, 94, 95, 96, 97, 98, 99, 100, 101, 102, 103, 104, 105, 106, 107, 108, 109, 110, 63, 64, 65, 66, 67, 111, 112, 113, 114, 115, 116, 117, 53, 118, 119, 120, 121, 122, 123, 124, 125, 126, 127, 128, 129, 130, 131, 132, 133, 134, 135, 136, 137, 138, 139, 56, 55, 140, 141, 142, 143, 144, 145, 146, 147, 57, 148, 149, 150, 151, 152, 153, 154, 155, 156, 157, 158, 159, 160, 161, 162, 163, 164, 165, 166, 167, 168, 169, 170, 171, 172, 173, 174, 175, 176, 177, 178, 179, 180, 58, 181, 182, 183, 184, 185, 186, 187, 188, 189, 54, 190, 191, 192, 193, 194, 195, 196, 197, 198, 199, 200, 201, 202, 203, 204, 205, 206, 207, 208, 214, 215, 216, 217, 218, 219, 220, 221, 222, 223, 224, 225, 226, 227, 228, 229] rfl (by decide +kernel)
set_option maxRecDepth 20000 in
theorem gX6_load_X5_doCommand_n81 : GoodIn wsX6_load (wsX5_doCommand) := ggX6_load_X5_doCommand
set_option maxRecDepth 20000 in
theorem ggX6_load_X5_commandSize : GoodIn wsX6_load wsX5_commandSize := goodIn_r _ [47, 11, 12, 13, 8, 14, 15, 16, 214, 215] rfl (by decide +kernel)
set_option maxRecDepth 20000 in
theorem gX6_load_X5_commandSize_n85 : GoodIn wsX6_load (wsX5_commandSize) := ggX6_load_X5_commandSize
theorem dX6_load_0 : decode cX6_load 0 = .ok (.aload_n 0, 1) := by decide +kernel
theorem dX6_load_1 : decode cX6_load 1 = .ok (.getfield 10, 3) := by decide +kernel
theorem dX6_load_4 : decode cX6_load 4 = .ok (.invokevirtual 64, 3) := by decide +kernel
theorem dX6_load_7 : decode cX6_load 7 = .ok (.iconst (-1), 1) := by decide +kernel
theorem dX6_load_8 : decode cX6_load 8 = .ok (.if_icmp .eq 13, 3) := by decide +kernel
theorem dX6_load_11 : decode cX6_load 11 = .ok (.new 51, 3) := by decide +kernel
theorem dX6_load_14 : decode cX6_load 14 = .ok (.dup, 1) := by decide +kernel
theorem dX6_load_15 : decode cX6_load 15 = .ok (.ldc 67, 2) := by decide +kernel
theorem dX6_load_17 : decode cX6_load 17 = .ok (.invokespecial 55, 3) := by decide +kernel
theorem dX6_load_20 : decode cX6_load 20 = .ok (.athrow, 1) := by decide +kernel
theorem dX6_load_21 : decode cX6_load 21 = .ok (.aload_n 0, 1) := by decide +kernel
theorem dX6_load_22 : decode cX6_load 22 = .ok (.getfield 19, 3) := by decide +kernel
theorem dX6_load_25 : decode cX6_load 25 = .ok (.invokevirtual 69, 3) := by decide +kernel
theorem dX6_load_28 : decode cX6_load 28 = .ok (.aload_n 0, 1) := by decide +kernel
theorem dX6_load_29 : decode cX6_load 29 = .ok (.getfield 29, 3) := by decide +kernel
theorem dX6_load_32 : decode cX6_load 32 = .ok (.invokevirtual 72, 3) := by decide +kernel
theorem dX6_load_35 : decode cX6_load 35 = .ok (.aload_n 0, 1) := by decide +kernel
theorem dX6_load_36 : decode cX6_load 36 = .ok (.getfield 36, 3) := by decide +kernel
theorem dX6_load_39 : decode cX6_load 39 = .ok (.invokevirtual 75, 3) := by decide +kernel
theorem dX6_load_42 : decode cX6_load 42 = .ok (.iconst 0, 1) := by decide +kernel
theorem dX6_load_43 : decode cX6_load 43 = .ok (.istore_n 1, 1) := by decide +kernel
theorem dX6_load_44 : decode cX6_load 44 = .ok (.iconst 1, 1) := by decide +kernel
theorem dX6_load_45 : decode cX6_load 45 = .ok (.istore_n 2, 1) := by decide +kernel
theorem dX6_load_46 : decode cX6_load 46 = .ok (.iconst 0, 1) := by decide +kernel
theorem dX6_load_47 : decode cX6_load 47 = .ok (.istore_n 3, 1) := by decide +kernel
theorem dX6_load_48 : decode cX6_load 48 = .ok (.iload_n 3, 1) := by decide +kernel
theorem dX6_load_49 : decode cX6_load 49 = .ok (.bipush 120, 2) := by decide +kernel
theorem dX6_load_51 : decode cX6_load 51 = .ok (.if_icmp .ge 50, 3) := by decide +kernel
theorem dX6_load_54 : decode cX6_load 54 = .ok (.aload_n 0, 1) := by decide +kernel
theorem dX6_load_55 : decode cX6_load 55 = .ok (.getfield 10, 3) := by decide +kernel
theorem dX6_load_58 : decode cX6_load 58 = .ok (.iload_n 2, 1) := by decide +kernel
theorem dX6_load_59 : decode cX6_load 59 = .ok (.invokevirtual 77, 3) := by decide +kernel
theorem dX6_load_62 : decode cX6_load 62 = .ok (.ifCond .eq 39, 3) := by decide +kernel
theorem dX6_load_65 : decode cX6_load 65 = .ok (.aload_n 0, 1) := by decide +kernel
theorem dX6_load_66 : decode cX6_load 66 = .ok (.getfield 10, 3) := by decide +kernel
theorem dX6_load_69 : decode cX6_load 69 = .ok (.iload_n 2, 1) := by decide +kernel
theorem dX6_load_70 : decode cX6_load 70 = .ok (.aload_n 0, 1) := by decide +kernel
theorem dX6_load_71 : decode cX6_load 71 = .ok (.getfield 19, 3) := by decide +kernel
theorem dX6_load_74 : decode cX6_load 74 = .ok (.invokevirtual 81, 3) := by decide +kernel
theorem dX6_load_77 : decode cX6_load 77 = .ok (.iconst (-1), 1) := by decide +kernel
theorem dX6_load_78 : decode cX6_load 78 = .ok (.if_icmp .ne 6, 3) := by decide +kernel
theorem dX6_load_81 : decode cX6_load 81 = .ok (.iinc 1 1, 3) := by decide +kernel
theorem dX6_load_84 : decode cX6_load 84 = .ok (.iload_n 2, 1) := by decide +kernel
theorem dX6_load_85 : decode cX6_load 85 = .ok (.aload_n 0, 1) := by decide +kernel
theorem dX6_load_86 : decode cX6_load 86 = .ok (.getfield 10, 3) := by decide +kernel
theorem dX6_load_89 : decode cX6_load 89 = .ok (.iload_n 2, 1) := by decide +kernel
theorem dX6_load_90 : decode cX6_load 90 = .ok (.invokevirtual 85, 3) := by decide +kernel
theorem dX6_load_93 : decode cX6_load 93 = .ok (.iadd, 1) := by decide +kernel
theorem dX6_load_94 : decode cX6_load 94 = .ok (.istore_n 2, 1) := by decide +kernel
theorem dX6_load_95 : decode cX6_load 95 = .ok (.iinc 3 1, 3) := by decide +kernel
theorem dX6_load_98 : decode cX6_load 98 = .ok (.goto (-50), 3) := by decide +kernel
theorem dX6_load_101 : decode cX6_load 101 = .ok (.iload_n 1, 1) := by decide +kernel
theorem dX6_load_102 : decode cX6_load 102 = .ok (.ireturn, 1) := by decide +kernel
set_option maxRecDepth 20000 in
theorem ggX6_about_X4_carsInState : GoodIn wsX6_about wsX4_carsInState := goodIn_r _ [7, 8, 9, 10, 11, 12, 33, 34, 35, 36, 37, 38, 39, 40, 41, 42, 43, 44, 45, 46] rfl (by decide +kernel)
set_option maxRecDepth 20000 in
theorem gX6_about_X4_carsInState_n93 : GoodIn wsX6_about (wsX4_carsInState) := ggX6_about_X4_carsInState
set_option maxRecDepth 20000 in
theorem ggX6_about_X4_gapCount : GoodIn wsX6_about wsX4_gapCount := goodIn_r _ [15, 16, 33, 34, 35, 36, 37, 38, 39, 40, 41, 42, 43, 44, 45, 46] rfl (by decide +kernel)
set_option maxRecDepth 20000 in
theorem gX6_about_X4_gapCount_n99 : GoodIn wsX6_about (wsX4_gapCount) := ggX6_about_X4_gapCount
set_option maxRecDepth 20000 in
theorem ggX6_about_X4_longestGap : GoodIn wsX6_about wsX4_longestGap := goodIn_r _ [19, 16, 33, 34, 35, 36, 37, 38, 39, 40, 41, 42, 43, 44, 45, 46] rfl (by decide +kernel)
set_option maxRecDepth 20000 in
theorem gX6_about_X4_longestGap_n102 : GoodIn wsX6_about (wsX4_longestGap) := ggX6_about_X4_longestGap
set_option maxRecDepth 20000 in
theorem ggX6_about_X4_cellsWith : GoodIn wsX6_about wsX4_cellsWith := goodIn_r _ [22, 23, 33, 34, 35, 36, 37, 38, 39, 40, 41, 42, 43, 44, 45, 46] rfl (by decide +kernel)
set_option maxRecDepth 20000 in
theorem gX6_about_X4_cellsWith_n105 : GoodIn wsX6_about (wsX4_cellsWith) := ggX6_about_X4_cellsWith
set_option maxRecDepth 20000 in
theorem ggX6_about_X4_allParkedMinutes : GoodIn wsX6_about wsX4_allParkedMinutes := goodIn_r _ [26, 8, 27, 10, 11, 12, 33, 34, 35, 36, 37, 38, 39, 40, 41, 42, 43, 44, 45, 46] rfl (by decide +kernel)
set_option maxRecDepth 20000 in
theorem gX6_about_X4_allParkedMinutes_n108 : GoodIn wsX6_about (wsX4_allParkedMinutes) := ggX6_about_X4_allParkedMinutes
theorem dX6_about_0 : decode cX6_about 0 = .ok (.iload_n 1, 1) := by decide +kernel
theorem dX6_about_1 : decode cX6_about 1 = .ok (.tableswitch 167 0 11 #[63, 71, 80, 89, 98, 107, 116, 124, 132, 140, 149, 159], 63) := by decide +kernel
theorem dX6_about_64 : decode cX6_about 64 = .ok (.aload_n 0, 1) := by decide +kernel
theorem dX6_about_65 : decode cX6_about 65 = .ok (.getfield 19, 3) := by decide +kernel
theorem dX6_about_68 : decode cX6_about 68 = .ok (.getfield 89, 3) := by decide +kernel
theorem dX6_about_71 : decode cX6_about 71 = .ok (.ireturn, 1) := by decide +kernel
theorem dX6_about_72 : decode cX6_about 72 = .ok (.aload_n 0, 1) := by decide +kernel
theorem dX6_about_73 : decode cX6_about 73 = .ok (.getfield 19, 3) := by decide +kernel
theorem dX6_about_76 : decode cX6_about 76 = .ok (.iconst 0, 1) := by decide +kernel
theorem dX6_about_77 : decode cX6_about 77 = .ok (.invokevirtual 93, 3) := by decide +kernel
theorem dX6_about_80 : decode cX6_about 80 = .ok (.ireturn, 1) := by decide +kernel
theorem dX6_about_81 : decode cX6_about 81 = .ok (.aload_n 0, 1) := by decide +kernel
theorem dX6_about_82 : decode cX6_about 82 = .ok (.getfield 19, 3) := by decide +kernel
theorem dX6_about_85 : decode cX6_about 85 = .ok (.iconst 1, 1) := by decide +kernel
theorem dX6_about_86 : decode cX6_about 86 = .ok (.invokevirtual 93, 3) := by decide +kernel
theorem dX6_about_89 : decode cX6_about 89 = .ok (.ireturn, 1) := by decide +kernel
theorem dX6_about_90 : decode cX6_about 90 = .ok (.aload_n 0, 1) := by decide +kernel
theorem dX6_about_91 : decode cX6_about 91 = .ok (.getfield 19, 3) := by decide +kernel
theorem dX6_about_94 : decode cX6_about 94 = .ok (.iconst 2, 1) := by decide +kernel
theorem dX6_about_95 : decode cX6_about 95 = .ok (.invokevirtual 93, 3) := by decide +kernel
theorem dX6_about_98 : decode cX6_about 98 = .ok (.ireturn, 1) := by decide +kernel
theorem dX6_about_99 : decode cX6_about 99 = .ok (.aload_n 0, 1) := by decide +kernel
theorem dX6_about_100 : decode cX6_about 100 = .ok (.getfield 19, 3) := by decide +kernel
theorem dX6_about_103 : decode cX6_about 103 = .ok (.iconst 3, 1) := by decide +kernel
theorem dX6_about_104 : decode cX6_about 104 = .ok (.invokevirtual 93, 3) := by decide +kernel
theorem dX6_about_107 : decode cX6_about 107 = .ok (.ireturn, 1) := by decide +kernel
theorem dX6_about_108 : decode cX6_about 108 = .ok (.aload_n 0, 1) := by decide +kernel
theorem dX6_about_109 : decode cX6_about 109 = .ok (.getfield 19, 3) := by decide +kernel
theorem dX6_about_112 : decode cX6_about 112 = .ok (.iconst 4, 1) := by decide +kernel
theorem dX6_about_113 : decode cX6_about 113 = .ok (.invokevirtual 93, 3) := by decide +kernel
theorem dX6_about_116 : decode cX6_about 116 = .ok (.ireturn, 1) := by decide +kernel
theorem dX6_about_117 : decode cX6_about 117 = .ok (.aload_n 0, 1) := by decide +kernel
theorem dX6_about_118 : decode cX6_about 118 = .ok (.getfield 19, 3) := by decide +kernel
theorem dX6_about_121 : decode cX6_about 121 = .ok (.getfield 96, 3) := by decide +kernel
theorem dX6_about_124 : decode cX6_about 124 = .ok (.ireturn, 1) := by decide +kernel
theorem dX6_about_125 : decode cX6_about 125 = .ok (.aload_n 0, 1) := by decide +kernel
theorem dX6_about_126 : decode cX6_about 126 = .ok (.getfield 19, 3) := by decide +kernel
theorem dX6_about_129 : decode cX6_about 129 = .ok (.invokevirtual 99, 3) := by decide +kernel
theorem dX6_about_132 : decode cX6_about 132 = .ok (.ireturn, 1) := by decide +kernel
theorem dX6_about_133 : decode cX6_about 133 = .ok (.aload_n 0, 1) := by decide +kernel
theorem dX6_about_134 : decode cX6_about 134 = .ok (.getfield 19, 3) := by decide +kernel
theorem dX6_about_137 : decode cX6_about 137 = .ok (.invokevirtual 102, 3) := by decide +kernel
theorem dX6_about_140 : decode cX6_about 140 = .ok (.ireturn, 1) := by decide +kernel
theorem dX6_about_141 : decode cX6_about 141 = .ok (.aload_n 0, 1) := by decide +kernel
theorem dX6_about_142 : decode cX6_about 142 = .ok (.getfield 19, 3) := by decide +kernel
theorem dX6_about_145 : decode cX6_about 145 = .ok (.iconst (-1), 1) := by decide +kernel
theorem dX6_about_146 : decode cX6_about 146 = .ok (.invokevirtual 105, 3) := by decide +kernel
theorem dX6_about_149 : decode cX6_about 149 = .ok (.ireturn, 1) := by decide +kernel
theorem dX6_about_150 : decode cX6_about 150 = .ok (.aload_n 0, 1) := by decide +kernel
theorem dX6_about_151 : decode cX6_about 151 = .ok (.getfield 19, 3) := by decide +kernel
theorem dX6_about_154 : decode cX6_about 154 = .ok (.bipush 100, 2) := by decide +kernel
theorem dX6_about_156 : decode cX6_about 156 = .ok (.invokevirtual 105, 3) := by decide +kernel
theorem dX6_about_159 : decode cX6_about 159 = .ok (.ireturn, 1) := by decide +kernel
theorem dX6_about_160 : decode cX6_about 160 = .ok (.aload_n 0, 1) := by decide +kernel
theorem dX6_about_161 : decode cX6_about 161 = .ok (.getfield 19, 3) := by decide +kernel
theorem dX6_about_164 : decode cX6_about 164 = .ok (.invokevirtual 108, 3) := by decide +kernel
theorem dX6_about_167 : decode cX6_about 167 = .ok (.ireturn, 1) := by decide +kernel
theorem dX6_about_168 : decode cX6_about 168 = .ok (.new 40, 3) := by decide +kernel
theorem dX6_about_171 : decode cX6_about 171 = .ok (.dup, 1) := by decide +kernel
theorem dX6_about_172 : decode cX6_about 172 = .ok (.ldc 111, 2) := by decide +kernel
theorem dX6_about_174 : decode cX6_about 174 = .ok (.invokespecial 44, 3) := by decide +kernel
theorem dX6_about_177 : decode cX6_about 177 = .ok (.athrow, 1) := by decide +kernel
set_option maxRecDepth 20000 in
theorem ggX6_carOf_X6_requireCar : GoodIn wsX6_carOf wsX6_requireCar := goodIn_ca (goodIn_r _ [8, 9, 10, 3, 11, 12, 13, 14, 15, 29, 30, 31, 32, 33, 34, 35, 36, 37, 38, 39, 40, 41, 42, 43, 44, 45, 46, 47] rfl (by decide +kernel)) (goodIn_sub (fun _ h => List.mem_cons_of_mem _ (List.mem_append_right _ h)) (by decide +kernel))
set_option maxRecDepth 20000 in
theorem gX6_carOf_X6_requireCar : GoodIn wsX6_carOf (wsV RX6 113 RX6 yX6_requireCar wsX6_requireCar) := goodIn_app (goodIn_r _ [4, 5, 6, 7] rfl (by decide +kernel)) ggX6_carOf_X6_requireCar
set_option maxRecDepth 20000 in
theorem ggX6_carOf_X6_get : GoodIn wsX6_carOf wsX6_get := goodIn_r _ [18] rfl (by decide +kernel)
set_option maxRecDepth 20000 in
theorem gX6_carOf_X6_get : GoodIn wsX6_carOf (va_wsS RX6 121 yX6_get wsX6_get) := goodIn_app (goodIn_r _ [16, 17, 7] rfl (by decide +kernel)) ggX6_carOf_X6_get
set_option maxRecDepth 20000 in
theorem ggX6_carOf_X4_isParked : GoodIn wsX6_carOf wsX4_isParked := goodIn_r _ [21, 22, 23, 11, 13, 12, 14, 15, 17, 7, 18, 34, 35, 36, 37, 38, 39, 40, 41, 42, 43, 44, 45, 46, 47] rfl (by decide +kernel)
set_option maxRecDepth 20000 in
theorem gX6_carOf_X4_isParked_n140 : GoodIn wsX6_carOf (wsX4_isParked) := ggX6_carOf_X4_isParked
set_option maxRecDepth 20000 in
theorem ggX6_carOf_X4_minutesLeft : GoodIn wsX6_carOf wsX4_minutesLeft := goodIn_r _ [26, 27, 28, 17, 7, 18, 34, 35, 36, 37, 38, 39, 40, 41, 42, 43, 44, 45, 46, 47] rfl (by decide +kernel)
set_option maxRecDepth 20000 in
theorem gX6_carOf_X4_minutesLeft_n143 : GoodIn wsX6_carOf (wsX4_minutesLeft) := ggX6_carOf_X4_minutesLeft
theorem dX6_carOf_0 : decode cX6_carOf 0 = .ok (.aload_n 0, 1) := by decide +kernel
theorem dX6_carOf_1 : decode cX6_carOf 1 = .ok (.iload_n 1, 1) := by decide +kernel
theorem dX6_carOf_2 : decode cX6_carOf 2 = .ok (.invokevirtual 113, 3) := by decide +kernel
theorem dX6_carOf_5 : decode cX6_carOf 5 = .ok (.iload_n 2, 1) := by decide +kernel
theorem dX6_carOf_6 : decode cX6_carOf 6 = .ok (.tableswitch 138 0 6 #[42, 54, 66, 78, 90, 102, 114], 42) := by decide +kernel
theorem dX6_carOf_48 : decode cX6_carOf 48 = .ok (.aload_n 0, 1) := by decide +kernel
theorem dX6_carOf_49 : decode cX6_carOf 49 = .ok (.getfield 19, 3) := by decide +kernel
theorem dX6_carOf_52 : decode cX6_carOf 52 = .ok (.getfield 117, 3) := by decide +kernel
theorem dX6_carOf_55 : decode cX6_carOf 55 = .ok (.iload_n 1, 1) := by decide +kernel
theorem dX6_carOf_56 : decode cX6_carOf 56 = .ok (.invokestatic 121, 3) := by decide +kernel
theorem dX6_carOf_59 : decode cX6_carOf 59 = .ok (.ireturn, 1) := by decide +kernel
theorem dX6_carOf_60 : decode cX6_carOf 60 = .ok (.aload_n 0, 1) := by decide +kernel
theorem dX6_carOf_61 : decode cX6_carOf 61 = .ok (.getfield 19, 3) := by decide +kernel
theorem dX6_carOf_64 : decode cX6_carOf 64 = .ok (.getfield 125, 3) := by decide +kernel
theorem dX6_carOf_67 : decode cX6_carOf 67 = .ok (.iload_n 1, 1) := by decide +kernel
theorem dX6_carOf_68 : decode cX6_carOf 68 = .ok (.invokestatic 121, 3) := by decide +kernel
theorem dX6_carOf_71 : decode cX6_carOf 71 = .ok (.ireturn, 1) := by decide +kernel
theorem dX6_carOf_72 : decode cX6_carOf 72 = .ok (.aload_n 0, 1) := by decide +kernel
theorem dX6_carOf_73 : decode cX6_carOf 73 = .ok (.getfield 19, 3) := by decide +kernel
theorem dX6_carOf_76 : decode cX6_carOf 76 = .ok (.getfield 128, 3) := by decide +kernel
theorem dX6_carOf_79 : decode cX6_carOf 79 = .ok (.iload_n 1, 1) := by decide +kernel
theorem dX6_carOf_80 : decode cX6_carOf 80 = .ok (.invokestatic 121, 3) := by decide +kernel
theorem dX6_carOf_83 : decode cX6_carOf 83 = .ok (.ireturn, 1) := by decide +kernel
theorem dX6_carOf_84 : decode cX6_carOf 84 = .ok (.aload_n 0, 1) := by decide +kernel
theorem dX6_carOf_85 : decode cX6_carOf 85 = .ok (.getfield 19, 3) := by decide +kernel
theorem dX6_carOf_88 : decode cX6_carOf 88 = .ok (.getfield 131, 3) := by decide +kernel
theorem dX6_carOf_91 : decode cX6_carOf 91 = .ok (.iload_n 1, 1) := by decide +kernel
theorem dX6_carOf_92 : decode cX6_carOf 92 = .ok (.invokestatic 121, 3) := by decide +kernel
theorem dX6_carOf_95 : decode cX6_carOf 95 = .ok (.ireturn, 1) := by decide +kernel
theorem dX6_carOf_96 : decode cX6_carOf 96 = .ok (.aload_n 0, 1) := by decide +kernel
theorem dX6_carOf_97 : decode cX6_carOf 97 = .ok (.getfield 19, 3) := by decide +kernel
theorem dX6_carOf_100 : decode cX6_carOf 100 = .ok (.getfield 134, 3) := by decide +kernel
theorem dX6_carOf_103 : decode cX6_carOf 103 = .ok (.iload_n 1, 1) := by decide +kernel
theorem dX6_carOf_104 : decode cX6_carOf 104 = .ok (.invokestatic 121, 3) := by decide +kernel
theorem dX6_carOf_107 : decode cX6_carOf 107 = .ok (.ireturn, 1) := by decide +kernel
theorem dX6_carOf_108 : decode cX6_carOf 108 = .ok (.aload_n 0, 1) := by decide +kernel
theorem dX6_carOf_109 : decode cX6_carOf 109 = .ok (.getfield 19, 3) := by decide +kernel
theorem dX6_carOf_112 : decode cX6_carOf 112 = .ok (.getfield 137, 3) := by decide +kernel
theorem dX6_carOf_115 : decode cX6_carOf 115 = .ok (.iload_n 1, 1) := by decide +kernel
theorem dX6_carOf_116 : decode cX6_carOf 116 = .ok (.invokestatic 121, 3) := by decide +kernel
theorem dX6_carOf_119 : decode cX6_carOf 119 = .ok (.ireturn, 1) := by decide +kernel
theorem dX6_carOf_120 : decode cX6_carOf 120 = .ok (.aload_n 0, 1) := by decide +kernel
theorem dX6_carOf_121 : decode cX6_carOf 121 = .ok (.getfield 19, 3) := by decide +kernel
theorem dX6_carOf_124 : decode cX6_carOf 124 = .ok (.iload_n 1, 1) := by decide +kernel
theorem dX6_carOf_125 : decode cX6_carOf 125 = .ok (.invokevirtual 140, 3) := by decide +kernel
theorem dX6_carOf_128 : decode cX6_carOf 128 = .ok (.ifCond .eq 14, 3) := by decide +kernel
theorem dX6_carOf_131 : decode cX6_carOf 131 = .ok (.aload_n 0, 1) := by decide +kernel
theorem dX6_carOf_132 : decode cX6_carOf 132 = .ok (.getfield 19, 3) := by decide +kernel
theorem dX6_carOf_135 : decode cX6_carOf 135 = .ok (.iload_n 1, 1) := by decide +kernel
theorem dX6_carOf_136 : decode cX6_carOf 136 = .ok (.invokevirtual 143, 3) := by decide +kernel
theorem dX6_carOf_139 : decode cX6_carOf 139 = .ok (.goto 4, 3) := by decide +kernel
theorem dX6_carOf_142 : decode cX6_carOf 142 = .ok (.iconst (-1), 1) := by decide +kernel
theorem dX6_carOf_143 : decode cX6_carOf 143 = .ok (.ireturn, 1) := by decide +kernel
theorem dX6_carOf_144 : decode cX6_carOf 144 = .ok (.new 40, 3) := by decide +kernel
theorem dX6_carOf_147 : decode cX6_carOf 147 = .ok (.dup, 1) := by decide +kernel
theorem dX6_carOf_148 : decode cX6_carOf 148 = .ok (.ldc 146, 2) := by decide +kernel
theorem dX6_carOf_150 : decode cX6_carOf 150 = .ok (.invokespecial 44, 3) := by decide +kernel
theorem dX6_carOf_153 : decode cX6_carOf 153 = .ok (.athrow, 1) := by decide +kernel
set_option maxRecDepth 20000 in
theorem ggX6_at_X6_requireCell : GoodIn wsX6_at wsX6_requireCell := goodIn_ca (goodIn_r _ [5, 6, 7, 8, 9, 4, 10] rfl (by decide +kernel)) (goodIn_sub (fun _ h => List.mem_cons_of_mem _ (List.mem_append_right _ h)) (by decide +kernel))
set_option maxRecDepth 20000 in
theorem gX6_at_X6_requireCell : GoodIn wsX6_at (va_wsS RX6 148 yX6_requireCell wsX6_requireCell) := goodIn_app (goodIn_r _ [2, 3, 4] rfl (by decide +kernel)) ggX6_at_X6_requireCell
set_option maxRecDepth 20000 in
theorem ggX6_at_X6_get : GoodIn wsX6_at wsX6_get := goodIn_r _ [13] rfl (by decide +kernel)
set_option maxRecDepth 20000 in
theorem gX6_at_X6_get : GoodIn wsX6_at (va_wsS RX6 121 yX6_get wsX6_get) := goodIn_app (goodIn_r _ [11, 12, 4] rfl (by decide +kernel)) ggX6_at_X6_get
theorem dX6_at_0 : decode cX6_at 0 = .ok (.iload_n 1, 1) := by decide +kernel
theorem dX6_at_1 : decode cX6_at 1 = .ok (.invokestatic 148, 3) := by decide +kernel
theorem dX6_at_4 : decode cX6_at 4 = .ok (.aload_n 0, 1) := by decide +kernel
theorem dX6_at_5 : decode cX6_at 5 = .ok (.getfield 19, 3) := by decide +kernel
theorem dX6_at_8 : decode cX6_at 8 = .ok (.getfield 151, 3) := by decide +kernel
theorem dX6_at_11 : decode cX6_at 11 = .ok (.iload_n 1, 1) := by decide +kernel
theorem dX6_at_12 : decode cX6_at 12 = .ok (.invokestatic 121, 3) := by decide +kernel
theorem dX6_at_15 : decode cX6_at 15 = .ok (.ireturn, 1) := by decide +kernel
set_option maxRecDepth 20000 in
theorem ggX6_gap_X4_gapStart : GoodIn wsX6_gap wsX4_gapStart := goodIn_r _ [7, 8, 23, 24, 25, 26, 27, 28, 29, 30, 31, 32, 33, 34, 35, 36] rfl (by decide +kernel)
set_option maxRecDepth 20000 in
theorem gX6_gap_X4_gapStart_n154 : GoodIn wsX6_gap (wsX4_gapStart) := ggX6_gap_X4_gapStart
set_option maxRecDepth 20000 in
theorem ggX6_gap_X6_requireZeroOrOne : GoodIn wsX6_gap wsX6_requireZeroOrOne := goodIn_ca (goodIn_r _ [12, 13, 14] rfl (by decide +kernel)) (goodIn_sub (fun _ h => List.mem_cons_of_mem _ (List.mem_append_right _ h)) (by decide +kernel))
set_option maxRecDepth 20000 in
theorem gX6_gap_X6_requireZeroOrOne : GoodIn wsX6_gap (va_wsS RX6 162 yX6_requireZeroOrOne wsX6_requireZeroOrOne) := goodIn_app (goodIn_r _ [9, 10, 11] rfl (by decide +kernel)) ggX6_gap_X6_requireZeroOrOne
set_option maxRecDepth 20000 in
theorem ggX6_gap_X6_get : GoodIn wsX6_gap wsX6_get := goodIn_r _ [17] rfl (by decide +kernel)
set_option maxRecDepth 20000 in
theorem gX6_gap_X6_get : GoodIn wsX6_gap (va_wsS RX6 121 yX6_get wsX6_get) := goodIn_app (goodIn_r _ [15, 16, 11] rfl (by decide +kernel)) ggX6_gap_X6_get
theorem dX6_gap_0 : decode cX6_gap 0 = .ok (.aload_n 0, 1) := by decide +kernel
theorem dX6_gap_1 : decode cX6_gap 1 = .ok (.getfield 19, 3) := by decide +kernel
theorem dX6_gap_4 : decode cX6_gap 4 = .ok (.iload_n 1, 1) := by decide +kernel
theorem dX6_gap_5 : decode cX6_gap 5 = .ok (.invokevirtual 154, 3) := by decide +kernel
theorem dX6_gap_8 : decode cX6_gap 8 = .ok (.istore_n 3, 1) := by decide +kernel
theorem dX6_gap_9 : decode cX6_gap 9 = .ok (.iload_n 3, 1) := by decide +kernel
theorem dX6_gap_10 : decode cX6_gap 10 = .ok (.iconst (-1), 1) := by decide +kernel
theorem dX6_gap_11 : decode cX6_gap 11 = .ok (.if_icmp .ne 13, 3) := by decide +kernel
theorem dX6_gap_14 : decode cX6_gap 14 = .ok (.new 157, 3) := by decide +kernel
theorem dX6_gap_17 : decode cX6_gap 17 = .ok (.dup, 1) := by decide +kernel
theorem dX6_gap_18 : decode cX6_gap 18 = .ok (.ldc 159, 2) := by decide +kernel
theorem dX6_gap_20 : decode cX6_gap 20 = .ok (.invokespecial 161, 3) := by decide +kernel
theorem dX6_gap_23 : decode cX6_gap 23 = .ok (.athrow, 1) := by decide +kernel
theorem dX6_gap_24 : decode cX6_gap 24 = .ok (.iload_n 2, 1) := by decide +kernel
theorem dX6_gap_25 : decode cX6_gap 25 = .ok (.invokestatic 162, 3) := by decide +kernel
theorem dX6_gap_28 : decode cX6_gap 28 = .ok (.iload_n 2, 1) := by decide +kernel
theorem dX6_gap_29 : decode cX6_gap 29 = .ok (.ifCond .ne 7, 3) := by decide +kernel
theorem dX6_gap_32 : decode cX6_gap 32 = .ok (.iload_n 3, 1) := by decide +kernel
theorem dX6_gap_33 : decode cX6_gap 33 = .ok (.goto 14, 3) := by decide +kernel
theorem dX6_gap_36 : decode cX6_gap 36 = .ok (.aload_n 0, 1) := by decide +kernel
theorem dX6_gap_37 : decode cX6_gap 37 = .ok (.getfield 19, 3) := by decide +kernel
theorem dX6_gap_40 : decode cX6_gap 40 = .ok (.getfield 165, 3) := by decide +kernel
theorem dX6_gap_43 : decode cX6_gap 43 = .ok (.iload_n 3, 1) := by decide +kernel
theorem dX6_gap_44 : decode cX6_gap 44 = .ok (.invokestatic 121, 3) := by decide +kernel
theorem dX6_gap_47 : decode cX6_gap 47 = .ok (.ireturn, 1) := by decide +kernel
set_option maxRecDepth 20000 in
theorem ggX6_setting_X4_settingOf : GoodIn wsX6_setting wsX4_settingOf := goodIn_r _ [7, 8, 9, 10, 16, 17, 18, 19, 20, 21, 22, 23, 24, 25, 26, 27, 28, 29] rfl (by decide +kernel)
set_option maxRecDepth 20000 in
theorem gX6_setting_X4_settingOf_n168 : GoodIn wsX6_setting (wsX4_settingOf) := ggX6_setting_X4_settingOf
theorem dX6_setting_0 : decode cX6_setting 0 = .ok (.aload_n 0, 1) := by decide +kernel
theorem dX6_setting_1 : decode cX6_setting 1 = .ok (.getfield 19, 3) := by decide +kernel
theorem dX6_setting_4 : decode cX6_setting 4 = .ok (.iload_n 1, 1) := by decide +kernel
theorem dX6_setting_5 : decode cX6_setting 5 = .ok (.invokevirtual 168, 3) := by decide +kernel
theorem dX6_setting_8 : decode cX6_setting 8 = .ok (.istore_n 2, 1) := by decide +kernel
theorem dX6_setting_9 : decode cX6_setting 9 = .ok (.iload_n 2, 1) := by decide +kernel
theorem dX6_setting_10 : decode cX6_setting 10 = .ok (.iconst (-1), 1) := by decide +kernel
theorem dX6_setting_11 : decode cX6_setting 11 = .ok (.if_icmp .ne 13, 3) := by decide +kernel
theorem dX6_setting_14 : decode cX6_setting 14 = .ok (.new 40, 3) := by decide +kernel
theorem dX6_setting_17 : decode cX6_setting 17 = .ok (.dup, 1) := by decide +kernel
theorem dX6_setting_18 : decode cX6_setting 18 = .ok (.ldc 171, 2) := by decide +kernel
theorem dX6_setting_20 : decode cX6_setting 20 = .ok (.invokespecial 44, 3) := by decide +kernel
theorem dX6_setting_23 : decode cX6_setting 23 = .ok (.athrow, 1) := by decide +kernel
theorem dX6_setting_24 : decode cX6_setting 24 = .ok (.iload_n 2, 1) := by decide +kernel
theorem dX6_setting_25 : decode cX6_setting 25 = .ok (.ireturn, 1) := by decide +kernel
set_option maxRecDepth 20000 in
theorem ggX6_hydrant_X6_requireCell : GoodIn wsX6_hydrant wsX6_requireCell := goodIn_ca (goodIn_r _ [8, 9, 10, 11, 12, 7, 13] rfl (by decide +kernel)) (goodIn_sub (fun _ h => List.mem_cons_of_mem _ (List.mem_append_right _ h)) (by decide +kernel))
set_option maxRecDepth 20000 in
theorem gX6_hydrant_X6_requireCell : GoodIn wsX6_hydrant (va_wsS RX6 148 yX6_requireCell wsX6_requireCell) := goodIn_app (goodIn_r _ [5, 6, 7] rfl (by decide +kernel)) ggX6_hydrant_X6_requireCell
set_option maxRecDepth 20000 in
theorem ggX6_hydrant_X4_allowsHydrant : GoodIn wsX6_hydrant wsX4_allowsHydrant := goodIn_r _ [17, 18, 12, 7, 13, 19, 20, 21, 15, 22, 23, 24, 79, 80, 81, 82, 83, 84, 85, 86, 87, 88, 89, 90, 91, 92] rfl (by decide +kernel)
set_option maxRecDepth 20000 in
theorem gX6_hydrant_X4_allowsHydrant_n173 : GoodIn wsX6_hydrant (wsX4_allowsHydrant) := ggX6_hydrant_X4_allowsHydrant
set_option maxRecDepth 20000 in
theorem ggX6_hydrant_X0_remember : GoodIn wsX6_hydrant wsX0_remember := goodIn_r _ [28, 29, 30, 31, 32, 7, 33, 34, 15, 35, 36, 18, 37, 38, 39, 40, 41, 42, 43, 44, 45, 46, 47, 48, 49, 50, 51, 52, 53, 54, 55, 93, 94, 95, 79, 80, 81, 82, 83, 84, 85, 86, 87, 88, 89, 90, 91, 92] rfl (by decide +kernel)
set_option maxRecDepth 20000 in
theorem gX6_hydrant_X0_remember_n179 : GoodIn wsX6_hydrant (wsX0_remember) := ggX6_hydrant_X0_remember
set_option maxRecDepth 20000 in
theorem ggX6_hydrant_X4_putHydrant : GoodIn wsX6_hydrant wsX4_putHydrant := goodIn_r _ [58, 18, 59, 14, 16, 15, 17, 12, 7, 13, 19, 20, 21, 22, 23, 24, 60, 61, 62, 63, 64, 65, 66, 67, 68, 69, 37, 70, 71, 72, 73, 79, 80, 81, 82, 83, 84, 85, 86, 87, 88, 89, 90, 91, 92] rfl (by decide +kernel)
set_option maxRecDepth 20000 in
theorem gX6_hydrant_X4_putHydrant_n183 : GoodIn wsX6_hydrant (wsX4_putHydrant) := ggX6_hydrant_X4_putHydrant
theorem dX6_hydrant_0 : decode cX6_hydrant 0 = .ok (.iload_n 1, 1) := by decide +kernel
theorem dX6_hydrant_1 : decode cX6_hydrant 1 = .ok (.invokestatic 148, 3) := by decide +kernel
theorem dX6_hydrant_4 : decode cX6_hydrant 4 = .ok (.aload_n 0, 1) := by decide +kernel
theorem dX6_hydrant_5 : decode cX6_hydrant 5 = .ok (.getfield 19, 3) := by decide +kernel
theorem dX6_hydrant_8 : decode cX6_hydrant 8 = .ok (.iload_n 1, 1) := by decide +kernel
theorem dX6_hydrant_9 : decode cX6_hydrant 9 = .ok (.iload_n 2, 1) := by decide +kernel
theorem dX6_hydrant_10 : decode cX6_hydrant 10 = .ok (.invokevirtual 173, 3) := by decide +kernel
theorem dX6_hydrant_13 : decode cX6_hydrant 13 = .ok (.ifCond .ne 13, 3) := by decide +kernel
theorem dX6_hydrant_16 : decode cX6_hydrant 16 = .ok (.new 51, 3) := by decide +kernel
theorem dX6_hydrant_19 : decode cX6_hydrant 19 = .ok (.dup, 1) := by decide +kernel
theorem dX6_hydrant_20 : decode cX6_hydrant 20 = .ok (.ldc 177, 2) := by decide +kernel
theorem dX6_hydrant_22 : decode cX6_hydrant 22 = .ok (.invokespecial 55, 3) := by decide +kernel
theorem dX6_hydrant_25 : decode cX6_hydrant 25 = .ok (.athrow, 1) := by decide +kernel
theorem dX6_hydrant_26 : decode cX6_hydrant 26 = .ok (.aload_n 0, 1) := by decide +kernel
theorem dX6_hydrant_27 : decode cX6_hydrant 27 = .ok (.getfield 29, 3) := by decide +kernel
theorem dX6_hydrant_30 : decode cX6_hydrant 30 = .ok (.aload_n 0, 1) := by decide +kernel
theorem dX6_hydrant_31 : decode cX6_hydrant 31 = .ok (.getfield 19, 3) := by decide +kernel
theorem dX6_hydrant_34 : decode cX6_hydrant 34 = .ok (.invokevirtual 179, 3) := by decide +kernel
theorem dX6_hydrant_37 : decode cX6_hydrant 37 = .ok (.aload_n 0, 1) := by decide +kernel
theorem dX6_hydrant_38 : decode cX6_hydrant 38 = .ok (.getfield 19, 3) := by decide +kernel
theorem dX6_hydrant_41 : decode cX6_hydrant 41 = .ok (.iload_n 1, 1) := by decide +kernel
theorem dX6_hydrant_42 : decode cX6_hydrant 42 = .ok (.iload_n 2, 1) := by decide +kernel
theorem dX6_hydrant_43 : decode cX6_hydrant 43 = .ok (.invokevirtual 183, 3) := by decide +kernel
theorem dX6_hydrant_46 : decode cX6_hydrant 46 = .ok (.ireturn, 1) := by decide +kernel
set_option maxRecDepth 20000 in
theorem ggX6_come_X6_requireLength : GoodIn wsX6_come wsX6_requireLength := goodIn_ca (goodIn_r _ [10, 1, 2, 11, 12, 9, 13] rfl (by decide +kernel)) (goodIn_sub (fun _ h => List.mem_cons_of_mem _ (List.mem_append_left _ (List.mem_append_right _ h))) (by decide +kernel))
set_option maxRecDepth 20000 in
theorem gX6_come_X6_requireLength : GoodIn wsX6_come (va_wsS RX6 187 yX6_requireLength wsX6_requireLength) := goodIn_app (goodIn_r _ [7, 8, 9] rfl (by decide +kernel)) ggX6_come_X6_requireLength
set_option maxRecDepth 20000 in
theorem ggX6_come_X6_isStay : GoodIn wsX6_come wsX6_isStay := goodIn_r _ [16] rfl (by decide +kernel)
set_option maxRecDepth 20000 in
theorem gX6_come_X6_isStay : GoodIn wsX6_come (va_wsS RX6 190 yX6_isStay wsX6_isStay) := goodIn_app (goodIn_r _ [14, 15, 9] rfl (by decide +kernel)) ggX6_come_X6_isStay
set_option maxRecDepth 20000 in
theorem ggX6_come_X4_allCame : GoodIn wsX6_come wsX4_allCame := goodIn_r _ [20, 21, 102, 103, 104, 105, 106, 107, 108, 109, 110, 111, 112, 113, 114, 115] rfl (by decide +kernel)
set_option maxRecDepth 20000 in
theorem gX6_come_X4_allCame_n195 : GoodIn wsX6_come (wsX4_allCame) := ggX6_come_X4_allCame
set_option maxRecDepth 20000 in
theorem ggX6_come_X0_remember : GoodIn wsX6_come wsX0_remember := goodIn_r _ [25, 26, 27, 28, 29, 9, 30, 31, 18, 32, 33, 34, 35, 36, 37, 38, 39, 40, 41, 21, 42, 43, 44, 45, 46, 47, 48, 49, 50, 51, 52, 116, 117, 118, 102, 103, 104, 105, 106, 107, 108, 109, 110, 111, 112, 113, 114, 115] rfl (by decide +kernel)
set_option maxRecDepth 20000 in
theorem gX6_come_X0_remember_n179 : GoodIn wsX6_come (wsX0_remember) := ggX6_come_X0_remember
set_option maxRecDepth 20000 in
theorem ggX6_come_X4_arrive : GoodIn wsX6_come wsX4_arrive := goodIn_r _ [55, 21, 36, 37, 38, 39, 40, 41, 12, 9, 13, 15, 16, 56, 17, 19, 18, 20, 57, 58, 59, 60, 61, 62, 63, 64, 65, 66, 67, 68, 44, 43, 69, 70, 71, 72, 73, 74, 75, 76, 35, 45, 77, 78, 79, 80, 81, 82, 83, 84, 85, 86, 87, 88, 89, 90, 91, 92, 34, 93, 94, 95, 96, 102, 103, 104, 105, 106, 107, 108, 109, 110, 111, 112, 113, 114, 115] rfl (by decide +kernel)
set_option maxRecDepth 20000 in
theorem gX6_come_X4_arrive_n200 : GoodIn wsX6_come (wsX4_arrive) := ggX6_come_X4_arrive
theorem dX6_come_0 : decode cX6_come 0 = .ok (.iload_n 1, 1) := by decide +kernel
theorem dX6_come_1 : decode cX6_come 1 = .ok (.invokestatic 187, 3) := by decide +kernel
theorem dX6_come_4 : decode cX6_come 4 = .ok (.iload_n 2, 1) := by decide +kernel
theorem dX6_come_5 : decode cX6_come 5 = .ok (.invokestatic 190, 3) := by decide +kernel
theorem dX6_come_8 : decode cX6_come 8 = .ok (.ifCond .ne 13, 3) := by decide +kernel
theorem dX6_come_11 : decode cX6_come 11 = .ok (.new 40, 3) := by decide +kernel
theorem dX6_come_14 : decode cX6_come 14 = .ok (.dup, 1) := by decide +kernel
theorem dX6_come_15 : decode cX6_come 15 = .ok (.ldc 193, 2) := by decide +kernel
theorem dX6_come_17 : decode cX6_come 17 = .ok (.invokespecial 44, 3) := by decide +kernel
theorem dX6_come_20 : decode cX6_come 20 = .ok (.athrow, 1) := by decide +kernel
theorem dX6_come_21 : decode cX6_come 21 = .ok (.aload_n 0, 1) := by decide +kernel
theorem dX6_come_22 : decode cX6_come 22 = .ok (.getfield 19, 3) := by decide +kernel
theorem dX6_come_25 : decode cX6_come 25 = .ok (.invokevirtual 195, 3) := by decide +kernel
theorem dX6_come_28 : decode cX6_come 28 = .ok (.ifCond .eq 13, 3) := by decide +kernel
theorem dX6_come_31 : decode cX6_come 31 = .ok (.new 51, 3) := by decide +kernel
theorem dX6_come_34 : decode cX6_come 34 = .ok (.dup, 1) := by decide +kernel
theorem dX6_come_35 : decode cX6_come 35 = .ok (.ldc 198, 2) := by decide +kernel
theorem dX6_come_37 : decode cX6_come 37 = .ok (.invokespecial 55, 3) := by decide +kernel
theorem dX6_come_40 : decode cX6_come 40 = .ok (.athrow, 1) := by decide +kernel
theorem dX6_come_41 : decode cX6_come 41 = .ok (.aload_n 0, 1) := by decide +kernel
theorem dX6_come_42 : decode cX6_come 42 = .ok (.getfield 29, 3) := by decide +kernel
theorem dX6_come_45 : decode cX6_come 45 = .ok (.aload_n 0, 1) := by decide +kernel
theorem dX6_come_46 : decode cX6_come 46 = .ok (.getfield 19, 3) := by decide +kernel
theorem dX6_come_49 : decode cX6_come 49 = .ok (.invokevirtual 179, 3) := by decide +kernel
theorem dX6_come_52 : decode cX6_come 52 = .ok (.aload_n 0, 1) := by decide +kernel
theorem dX6_come_53 : decode cX6_come 53 = .ok (.getfield 19, 3) := by decide +kernel
theorem dX6_come_56 : decode cX6_come 56 = .ok (.iload_n 1, 1) := by decide +kernel
theorem dX6_come_57 : decode cX6_come 57 = .ok (.iload_n 2, 1) := by decide +kernel
theorem dX6_come_58 : decode cX6_come 58 = .ok (.invokevirtual 200, 3) := by decide +kernel
theorem dX6_come_61 : decode cX6_come 61 = .ok (.ireturn, 1) := by decide +kernel
set_option maxRecDepth 20000 in
theorem ggX6_leave_X6_requireCar : GoodIn wsX6_leave wsX6_requireCar := goodIn_ca (goodIn_r _ [7, 8, 9, 2, 10, 11, 12, 13, 14, 72, 73, 74, 75, 76, 77, 78, 79, 80, 81, 82, 83, 84, 85, 86, 87, 88, 89, 90] rfl (by decide +kernel)) (goodIn_sub (fun _ h => List.mem_cons_of_mem _ (List.mem_append_left _ (List.mem_append_right _ h))) (by decide +kernel))
set_option maxRecDepth 20000 in
theorem gX6_leave_X6_requireCar : GoodIn wsX6_leave (wsV RX6 113 RX6 yX6_requireCar wsX6_requireCar) := goodIn_app (goodIn_r _ [3, 4, 5, 6] rfl (by decide +kernel)) ggX6_leave_X6_requireCar
set_option maxRecDepth 20000 in
theorem ggX6_leave_X6_requireParked : GoodIn wsX6_leave wsX6_requireParked := goodIn_ca (goodIn_r _ [18, 19, 20, 2, 21, 11, 22, 23, 24, 25, 10, 12, 13, 14, 26, 6, 27, 72, 73, 74, 75, 76, 77, 78, 79, 80, 81, 82, 83, 84, 85, 86, 87, 88, 89, 90] rfl (by decide +kernel)) (goodIn_sub (fun _ h => List.mem_cons_of_mem _ (List.mem_append_right _ h)) (by decide +kernel))
set_option maxRecDepth 20000 in
theorem gX6_leave_X6_requireParked : GoodIn wsX6_leave (wsV RX6 204 RX6 yX6_requireParked wsX6_requireParked) := goodIn_app (goodIn_r _ [15, 16, 17, 6] rfl (by decide +kernel)) ggX6_leave_X6_requireParked
set_option maxRecDepth 20000 in
theorem ggX6_leave_X0_remember : GoodIn wsX6_leave wsX0_remember := goodIn_r _ [31, 32, 33, 34, 35, 6, 36, 37, 11, 38, 39, 40, 41, 42, 43, 24, 44, 45, 46, 14, 47, 48, 49, 50, 51, 52, 53, 54, 55, 56, 57, 91, 92, 93, 77, 78, 79, 80, 81, 82, 83, 84, 85, 86, 87, 88, 89, 90] rfl (by decide +kernel)
set_option maxRecDepth 20000 in
theorem gX6_leave_X0_remember_n179 : GoodIn wsX6_leave (wsX0_remember) := ggX6_leave_X0_remember
set_option maxRecDepth 20000 in
theorem ggX6_leave_X4_depart : GoodIn wsX6_leave wsX4_depart := goodIn_r _ [60, 44, 42, 24, 61, 21, 22, 11, 23, 25, 10, 12, 13, 14, 26, 6, 27, 62, 63, 64, 65, 40, 66, 67, 68, 69, 70, 71, 41, 77, 78, 79, 80, 81, 82, 83, 84, 85, 86, 87, 88, 89, 90] rfl (by decide +kernel)
set_option maxRecDepth 20000 in
theorem gX6_leave_X4_depart_n207 : GoodIn wsX6_leave (wsX4_depart) := ggX6_leave_X4_depart
theorem dX6_leave_0 : decode cX6_leave 0 = .ok (.aload_n 0, 1) := by decide +kernel
theorem dX6_leave_1 : decode cX6_leave 1 = .ok (.iload_n 1, 1) := by decide +kernel
theorem dX6_leave_2 : decode cX6_leave 2 = .ok (.invokevirtual 113, 3) := by decide +kernel
theorem dX6_leave_5 : decode cX6_leave 5 = .ok (.aload_n 0, 1) := by decide +kernel
theorem dX6_leave_6 : decode cX6_leave 6 = .ok (.iload_n 1, 1) := by decide +kernel
theorem dX6_leave_7 : decode cX6_leave 7 = .ok (.invokevirtual 204, 3) := by decide +kernel
theorem dX6_leave_10 : decode cX6_leave 10 = .ok (.aload_n 0, 1) := by decide +kernel
theorem dX6_leave_11 : decode cX6_leave 11 = .ok (.getfield 29, 3) := by decide +kernel
theorem dX6_leave_14 : decode cX6_leave 14 = .ok (.aload_n 0, 1) := by decide +kernel
theorem dX6_leave_15 : decode cX6_leave 15 = .ok (.getfield 19, 3) := by decide +kernel
theorem dX6_leave_18 : decode cX6_leave 18 = .ok (.invokevirtual 179, 3) := by decide +kernel
theorem dX6_leave_21 : decode cX6_leave 21 = .ok (.aload_n 0, 1) := by decide +kernel
theorem dX6_leave_22 : decode cX6_leave 22 = .ok (.getfield 19, 3) := by decide +kernel
theorem dX6_leave_25 : decode cX6_leave 25 = .ok (.iload_n 1, 1) := by decide +kernel
theorem dX6_leave_26 : decode cX6_leave 26 = .ok (.iconst 2, 1) := by decide +kernel
theorem dX6_leave_27 : decode cX6_leave 27 = .ok (.invokevirtual 207, 3) := by decide +kernel
theorem dX6_leave_30 : decode cX6_leave 30 = .ok (.ireturn, 1) := by decide +kernel
set_option maxRecDepth 20000 in
theorem ggX6_tow_X6_requireCar : GoodIn wsX6_tow wsX6_requireCar := goodIn_ca (goodIn_r _ [7, 8, 9, 2, 10, 11, 12, 13, 14, 75, 76, 77, 78, 79, 80, 81, 82, 83, 84, 85, 86, 87, 88, 89, 90, 91, 92, 93] rfl (by decide +kernel)) (goodIn_sub (fun _ h => List.mem_cons_of_mem _ (List.mem_append_left _ (List.mem_append_right _ h))) (by decide +kernel))
set_option maxRecDepth 20000 in
theorem gX6_tow_X6_requireCar : GoodIn wsX6_tow (wsV RX6 113 RX6 yX6_requireCar wsX6_requireCar) := goodIn_app (goodIn_r _ [3, 4, 5, 6] rfl (by decide +kernel)) ggX6_tow_X6_requireCar
set_option maxRecDepth 20000 in
theorem ggX6_tow_X6_requireParked : GoodIn wsX6_tow wsX6_requireParked := goodIn_ca (goodIn_r _ [18, 19, 20, 2, 21, 11, 22, 23, 24, 25, 10, 12, 13, 14, 26, 6, 27, 75, 76, 77, 78, 79, 80, 81, 82, 83, 84, 85, 86, 87, 88, 89, 90, 91, 92, 93] rfl (by decide +kernel)) (goodIn_sub (fun _ h => List.mem_cons_of_mem _ (List.mem_append_right _ h)) (by decide +kernel))
set_option maxRecDepth 20000 in
theorem gX6_tow_X6_requireParked : GoodIn wsX6_tow (wsV RX6 204 RX6 yX6_requireParked wsX6_requireParked) := goodIn_app (goodIn_r _ [15, 16, 17, 6] rfl (by decide +kernel)) ggX6_tow_X6_requireParked
set_option maxRecDepth 20000 in
theorem ggX6_tow_X0_remember : GoodIn wsX6_tow wsX0_remember := goodIn_r _ [31, 32, 33, 34, 35, 6, 36, 37, 11, 38, 39, 40, 41, 42, 43, 24, 44, 45, 46, 14, 47, 48, 49, 50, 51, 52, 53, 54, 55, 56, 57, 94, 95, 96, 80, 81, 82, 83, 84, 85, 86, 87, 88, 89, 90, 91, 92, 93] rfl (by decide +kernel)
set_option maxRecDepth 20000 in
theorem gX6_tow_X0_remember_n179 : GoodIn wsX6_tow (wsX0_remember) := ggX6_tow_X0_remember
set_option maxRecDepth 20000 in
theorem ggX6_tow_X4_minutesLeft : GoodIn wsX6_tow wsX4_minutesLeft := goodIn_r _ [60, 43, 45, 26, 6, 27, 80, 81, 82, 83, 84, 85, 86, 87, 88, 89, 90, 91, 92, 93] rfl (by decide +kernel)
set_option maxRecDepth 20000 in
theorem gX6_tow_X4_minutesLeft_n143 : GoodIn wsX6_tow (wsX4_minutesLeft) := ggX6_tow_X4_minutesLeft
set_option maxRecDepth 20000 in
theorem ggX6_tow_X4_depart : GoodIn wsX6_tow wsX4_depart := goodIn_r _ [63, 44, 42, 24, 64, 21, 22, 11, 23, 25, 10, 12, 13, 14, 26, 6, 27, 65, 66, 67, 68, 40, 69, 70, 71, 72, 73, 74, 41, 80, 81, 82, 83, 84, 85, 86, 87, 88, 89, 90, 91, 92, 93] rfl (by decide +kernel)
set_option maxRecDepth 20000 in
theorem gX6_tow_X4_depart_n207 : GoodIn wsX6_tow (wsX4_depart) := ggX6_tow_X4_depart
theorem dX6_tow_0 : decode cX6_tow 0 = .ok (.aload_n 0, 1) := by decide +kernel
theorem dX6_tow_1 : decode cX6_tow 1 = .ok (.iload_n 1, 1) := by decide +kernel
theorem dX6_tow_2 : decode cX6_tow 2 = .ok (.invokevirtual 113, 3) := by decide +kernel
theorem dX6_tow_5 : decode cX6_tow 5 = .ok (.aload_n 0, 1) := by decide +kernel
theorem dX6_tow_6 : decode cX6_tow 6 = .ok (.iload_n 1, 1) := by decide +kernel
theorem dX6_tow_7 : decode cX6_tow 7 = .ok (.invokevirtual 204, 3) := by decide +kernel
theorem dX6_tow_10 : decode cX6_tow 10 = .ok (.aload_n 0, 1) := by decide +kernel
theorem dX6_tow_11 : decode cX6_tow 11 = .ok (.getfield 29, 3) := by decide +kernel
theorem dX6_tow_14 : decode cX6_tow 14 = .ok (.aload_n 0, 1) := by decide +kernel
theorem dX6_tow_15 : decode cX6_tow 15 = .ok (.getfield 19, 3) := by decide +kernel
theorem dX6_tow_18 : decode cX6_tow 18 = .ok (.invokevirtual 179, 3) := by decide +kernel
theorem dX6_tow_21 : decode cX6_tow 21 = .ok (.aload_n 0, 1) := by decide +kernel
theorem dX6_tow_22 : decode cX6_tow 22 = .ok (.getfield 19, 3) := by decide +kernel
theorem dX6_tow_25 : decode cX6_tow 25 = .ok (.iload_n 1, 1) := by decide +kernel
theorem dX6_tow_26 : decode cX6_tow 26 = .ok (.invokevirtual 143, 3) := by decide +kernel
theorem dX6_tow_29 : decode cX6_tow 29 = .ok (.istore_n 2, 1) := by decide +kernel
theorem dX6_tow_30 : decode cX6_tow 30 = .ok (.aload_n 0, 1) := by decide +kernel
theorem dX6_tow_31 : decode cX6_tow 31 = .ok (.getfield 19, 3) := by decide +kernel
theorem dX6_tow_34 : decode cX6_tow 34 = .ok (.iload_n 1, 1) := by decide +kernel
theorem dX6_tow_35 : decode cX6_tow 35 = .ok (.iconst 4, 1) := by decide +kernel
theorem dX6_tow_36 : decode cX6_tow 36 = .ok (.invokevirtual 207, 3) := by decide +kernel
theorem dX6_tow_39 : decode cX6_tow 39 = .ok (.pop, 1) := by decide +kernel
theorem dX6_tow_40 : decode cX6_tow 40 = .ok (.iload_n 2, 1) := by decide +kernel
theorem dX6_tow_41 : decode cX6_tow 41 = .ok (.ireturn, 1) := by decide +kernel
set_option maxRecDepth 20000 in
theorem ggX6_move_X6_requireCar : GoodIn wsX6_move wsX6_requireCar := goodIn_ca (goodIn_r _ [9, 10, 11, 3, 12, 13, 14, 15, 16, 82, 83, 84, 85, 86, 87, 88, 89, 90, 91, 92, 93, 94, 95, 96, 97, 98, 99, 100] rfl (by decide +kernel)) (goodIn_sub (fun _ h => List.mem_cons_of_mem _ (List.mem_append_right _ h)) (by decide +kernel))
set_option maxRecDepth 20000 in
theorem gX6_move_X6_requireCar : GoodIn wsX6_move (wsV RX6 113 RX6 yX6_requireCar wsX6_requireCar) := goodIn_app (goodIn_r _ [5, 6, 7, 8] rfl (by decide +kernel)) ggX6_move_X6_requireCar
set_option maxRecDepth 20000 in
theorem ggX6_move_X6_requireCell : GoodIn wsX6_move wsX6_requireCell := goodIn_ca (goodIn_r _ [19, 10, 11, 20, 21, 8, 22] rfl (by decide +kernel)) (goodIn_sub (fun _ h => List.mem_cons_of_mem _ (List.mem_append_right _ h)) (by decide +kernel))
set_option maxRecDepth 20000 in
theorem gX6_move_X6_requireCell : GoodIn wsX6_move (va_wsS RX6 148 yX6_requireCell wsX6_requireCell) := goodIn_app (goodIn_r _ [17, 18, 8] rfl (by decide +kernel)) ggX6_move_X6_requireCell
set_option maxRecDepth 20000 in
theorem ggX6_move_X4_canShift : GoodIn wsX6_move wsX4_canShift := goodIn_r _ [25, 26, 27, 28, 29, 8, 30, 31, 32, 33, 13, 34, 35, 36, 12, 14, 15, 16, 21, 22, 37, 38, 39, 40, 87, 88, 89, 90, 91, 92, 93, 94, 95, 96, 97, 98, 99, 100] rfl (by decide +kernel)
set_option maxRecDepth 20000 in
theorem gX6_move_X4_canShift_n210 : GoodIn wsX6_move (wsX4_canShift) := ggX6_move_X4_canShift
set_option maxRecDepth 20000 in
theorem ggX6_move_X0_remember : GoodIn wsX6_move wsX0_remember := goodIn_r _ [44, 45, 46, 47, 48, 8, 49, 50, 13, 51, 52, 28, 53, 27, 54, 35, 26, 55, 56, 16, 57, 58, 59, 60, 61, 62, 63, 64, 65, 66, 67, 101, 102, 103, 87, 88, 89, 90, 91, 92, 93, 94, 95, 96, 97, 98, 99, 100] rfl (by decide +kernel)
set_option maxRecDepth 20000 in
theorem gX6_move_X0_remember_n179 : GoodIn wsX6_move (wsX0_remember) := ggX6_move_X0_remember
set_option maxRecDepth 20000 in
theorem ggX6_move_X4_shift : GoodIn wsX6_move wsX4_shift := goodIn_r _ [70, 26, 27, 71, 23, 24, 13, 25, 28, 29, 8, 30, 31, 32, 33, 34, 35, 36, 12, 14, 15, 16, 21, 22, 37, 38, 39, 40, 72, 73, 74, 75, 76, 77, 78, 79, 80, 81, 53, 87, 88, 89, 90, 91, 92, 93, 94, 95, 96, 97, 98, 99, 100] rfl (by decide +kernel)
set_option maxRecDepth 20000 in
theorem gX6_move_X4_shift_n216 : GoodIn wsX6_move (wsX4_shift) := ggX6_move_X4_shift
theorem dX6_move_0 : decode cX6_move 0 = .ok (.aload_n 0, 1) := by decide +kernel
theorem dX6_move_1 : decode cX6_move 1 = .ok (.iload_n 1, 1) := by decide +kernel
theorem dX6_move_2 : decode cX6_move 2 = .ok (.invokevirtual 113, 3) := by decide +kernel
theorem dX6_move_5 : decode cX6_move 5 = .ok (.iload_n 2, 1) := by decide +kernel
theorem dX6_move_6 : decode cX6_move 6 = .ok (.invokestatic 148, 3) := by decide +kernel
theorem dX6_move_9 : decode cX6_move 9 = .ok (.aload_n 0, 1) := by decide +kernel
theorem dX6_move_10 : decode cX6_move 10 = .ok (.getfield 19, 3) := by decide +kernel
theorem dX6_move_13 : decode cX6_move 13 = .ok (.iload_n 1, 1) := by decide +kernel
theorem dX6_move_14 : decode cX6_move 14 = .ok (.iload_n 2, 1) := by decide +kernel
theorem dX6_move_15 : decode cX6_move 15 = .ok (.invokevirtual 210, 3) := by decide +kernel
theorem dX6_move_18 : decode cX6_move 18 = .ok (.ifCond .ne 13, 3) := by decide +kernel
theorem dX6_move_21 : decode cX6_move 21 = .ok (.new 51, 3) := by decide +kernel
theorem dX6_move_24 : decode cX6_move 24 = .ok (.dup, 1) := by decide +kernel
theorem dX6_move_25 : decode cX6_move 25 = .ok (.ldc 214, 2) := by decide +kernel
theorem dX6_move_27 : decode cX6_move 27 = .ok (.invokespecial 55, 3) := by decide +kernel
theorem dX6_move_30 : decode cX6_move 30 = .ok (.athrow, 1) := by decide +kernel
theorem dX6_move_31 : decode cX6_move 31 = .ok (.aload_n 0, 1) := by decide +kernel
theorem dX6_move_32 : decode cX6_move 32 = .ok (.getfield 29, 3) := by decide +kernel
theorem dX6_move_35 : decode cX6_move 35 = .ok (.aload_n 0, 1) := by decide +kernel
theorem dX6_move_36 : decode cX6_move 36 = .ok (.getfield 19, 3) := by decide +kernel
theorem dX6_move_39 : decode cX6_move 39 = .ok (.invokevirtual 179, 3) := by decide +kernel
theorem dX6_move_42 : decode cX6_move 42 = .ok (.aload_n 0, 1) := by decide +kernel
theorem dX6_move_43 : decode cX6_move 43 = .ok (.getfield 19, 3) := by decide +kernel
theorem dX6_move_46 : decode cX6_move 46 = .ok (.iload_n 1, 1) := by decide +kernel
theorem dX6_move_47 : decode cX6_move 47 = .ok (.iload_n 2, 1) := by decide +kernel
theorem dX6_move_48 : decode cX6_move 48 = .ok (.invokevirtual 216, 3) := by decide +kernel
theorem dX6_move_51 : decode cX6_move 51 = .ok (.ireturn, 1) := by decide +kernel
set_option maxRecDepth 20000 in
theorem ggX6_minutes_X6_isMinutes : GoodIn wsX6_minutes wsX6_isMinutes := goodIn_r _ [8] rfl (by decide +kernel)
set_option maxRecDepth 20000 in
theorem gX6_minutes_X6_isMinutes : GoodIn wsX6_minutes (va_wsS RX6 219 yX6_isMinutes wsX6_isMinutes) := goodIn_app (goodIn_r _ [5, 6, 7] rfl (by decide +kernel)) ggX6_minutes_X6_isMinutes
set_option maxRecDepth 20000 in
theorem ggX6_minutes_X0_remember : GoodIn wsX6_minutes wsX0_remember := goodIn_r _ [12, 13, 14, 15, 16, 7, 17, 18, 19, 20, 21, 22, 23, 24, 25, 26, 27, 28, 29, 30, 31, 32, 33, 34, 35, 36, 37, 38, 39, 40, 41, 118, 119, 120, 121, 122, 123, 124, 125, 126, 127, 128, 129, 130, 131, 132, 133, 134] rfl (by decide +kernel)
set_option maxRecDepth 20000 in
theorem gX6_minutes_X0_remember_n179 : GoodIn wsX6_minutes (wsX0_remember) := ggX6_minutes_X0_remember
set_option maxRecDepth 20000 in
theorem ggX6_minutes_X4_passMinutes : GoodIn wsX6_minutes wsX4_passMinutes := goodIn_r _ [44, 31, 6, 7, 8, 45, 46, 47, 19, 48, 30, 28, 49, 50, 51, 52, 26, 53, 54, 55, 56, 57, 58, 59, 60, 61, 62, 63, 64, 25, 65, 66, 67, 68, 27, 24, 69, 70, 71, 72, 22, 73, 74, 75, 76, 23, 77, 78, 79, 80, 81, 82, 83, 84, 85, 86, 87, 88, 33, 32, 89, 90, 91, 92, 93, 94, 95, 96, 34, 97, 98, 99, 100, 101, 102, 103, 104, 105, 106, 107, 108, 109, 110, 111, 112, 29, 35, 121, 122, 123, 124, 125, 126, 127, 128, 129, 130, 131, 132, 133, 134] rfl (by decide +kernel)
set_option maxRecDepth 20000 in
theorem gX6_minutes_X4_passMinutes_n224 : GoodIn wsX6_minutes (wsX4_passMinutes) := ggX6_minutes_X4_passMinutes
theorem dX6_minutes_0 : decode cX6_minutes 0 = .ok (.iload_n 1, 1) := by decide +kernel
theorem dX6_minutes_1 : decode cX6_minutes 1 = .ok (.invokestatic 219, 3) := by decide +kernel
theorem dX6_minutes_4 : decode cX6_minutes 4 = .ok (.ifCond .ne 13, 3) := by decide +kernel
theorem dX6_minutes_7 : decode cX6_minutes 7 = .ok (.new 40, 3) := by decide +kernel
theorem dX6_minutes_10 : decode cX6_minutes 10 = .ok (.dup, 1) := by decide +kernel
theorem dX6_minutes_11 : decode cX6_minutes 11 = .ok (.ldc 222, 2) := by decide +kernel
theorem dX6_minutes_13 : decode cX6_minutes 13 = .ok (.invokespecial 44, 3) := by decide +kernel
theorem dX6_minutes_16 : decode cX6_minutes 16 = .ok (.athrow, 1) := by decide +kernel
theorem dX6_minutes_17 : decode cX6_minutes 17 = .ok (.aload_n 0, 1) := by decide +kernel
theorem dX6_minutes_18 : decode cX6_minutes 18 = .ok (.getfield 29, 3) := by decide +kernel
theorem dX6_minutes_21 : decode cX6_minutes 21 = .ok (.aload_n 0, 1) := by decide +kernel
theorem dX6_minutes_22 : decode cX6_minutes 22 = .ok (.getfield 19, 3) := by decide +kernel
theorem dX6_minutes_25 : decode cX6_minutes 25 = .ok (.invokevirtual 179, 3) := by decide +kernel
theorem dX6_minutes_28 : decode cX6_minutes 28 = .ok (.aload_n 0, 1) := by decide +kernel
theorem dX6_minutes_29 : decode cX6_minutes 29 = .ok (.getfield 19, 3) := by decide +kernel
theorem dX6_minutes_32 : decode cX6_minutes 32 = .ok (.iload_n 1, 1) := by decide +kernel
theorem dX6_minutes_33 : decode cX6_minutes 33 = .ok (.invokevirtual 224, 3) := by decide +kernel
theorem dX6_minutes_36 : decode cX6_minutes 36 = .ok (.ireturn, 1) := by decide +kernel
set_option maxRecDepth 20000 in
theorem ggX6_set_X6_isSettingValue : GoodIn wsX6_set wsX6_isSettingValue := goodIn_r _ [8] rfl (by decide +kernel)
set_option maxRecDepth 20000 in
theorem gX6_set_X6_isSettingValue : GoodIn wsX6_set (va_wsS RX6 227 yX6_isSettingValue wsX6_isSettingValue) := goodIn_app (goodIn_r _ [5, 6, 7] rfl (by decide +kernel)) ggX6_set_X6_isSettingValue
set_option maxRecDepth 20000 in
theorem ggX6_set_X0_remember : GoodIn wsX6_set wsX0_remember := goodIn_r _ [12, 13, 14, 15, 16, 7, 17, 18, 19, 20, 21, 22, 23, 24, 25, 26, 27, 28, 29, 30, 31, 32, 33, 34, 35, 36, 37, 38, 39, 40, 41, 54, 55, 56, 57, 58, 59, 60, 61, 62, 63, 64, 65, 66, 67, 68, 69, 70] rfl (by decide +kernel)
set_option maxRecDepth 20000 in
theorem gX6_set_X0_remember_n179 : GoodIn wsX6_set (wsX0_remember) := ggX6_set_X0_remember
set_option maxRecDepth 20000 in
theorem ggX6_set_X4_changeSetting : GoodIn wsX6_set wsX4_changeSetting := goodIn_r _ [44, 33, 34, 35, 6, 7, 8, 45, 46, 47, 19, 48, 57, 58, 59, 60, 61, 62, 63, 64, 65, 66, 67, 68, 69, 70] rfl (by decide +kernel)
set_option maxRecDepth 20000 in
theorem gX6_set_X4_changeSetting_n232 : GoodIn wsX6_set (wsX4_changeSetting) := ggX6_set_X4_changeSetting
theorem dX6_set_0 : decode cX6_set 0 = .ok (.iload_n 1, 1) := by decide +kernel
theorem dX6_set_1 : decode cX6_set 1 = .ok (.iload_n 2, 1) := by decide +kernel
theorem dX6_set_2 : decode cX6_set 2 = .ok (.invokestatic 227, 3) := by decide +kernel
theorem dX6_set_5 : decode cX6_set 5 = .ok (.ifCond .ne 13, 3) := by decide +kernel
theorem dX6_set_8 : decode cX6_set 8 = .ok (.new 40, 3) := by decide +kernel
theorem dX6_set_11 : decode cX6_set 11 = .ok (.dup, 1) := by decide +kernel
theorem dX6_set_12 : decode cX6_set 12 = .ok (.ldc 230, 2) := by decide +kernel
theorem dX6_set_14 : decode cX6_set 14 = .ok (.invokespecial 44, 3) := by decide +kernel
theorem dX6_set_17 : decode cX6_set 17 = .ok (.athrow, 1) := by decide +kernel
theorem dX6_set_18 : decode cX6_set 18 = .ok (.aload_n 0, 1) := by decide +kernel
theorem dX6_set_19 : decode cX6_set 19 = .ok (.getfield 29, 3) := by decide +kernel
theorem dX6_set_22 : decode cX6_set 22 = .ok (.aload_n 0, 1) := by decide +kernel
theorem dX6_set_23 : decode cX6_set 23 = .ok (.getfield 19, 3) := by decide +kernel
theorem dX6_set_26 : decode cX6_set 26 = .ok (.invokevirtual 179, 3) := by decide +kernel
theorem dX6_set_29 : decode cX6_set 29 = .ok (.aload_n 0, 1) := by decide +kernel
theorem dX6_set_30 : decode cX6_set 30 = .ok (.getfield 19, 3) := by decide +kernel
theorem dX6_set_33 : decode cX6_set 33 = .ok (.iload_n 1, 1) := by decide +kernel
theorem dX6_set_34 : decode cX6_set 34 = .ok (.iload_n 2, 1) := by decide +kernel
theorem dX6_set_35 : decode cX6_set 35 = .ok (.invokevirtual 232, 3) := by decide +kernel
theorem dX6_set_38 : decode cX6_set 38 = .ok (.ireturn, 1) := by decide +kernel
set_option maxRecDepth 20000 in
theorem ggX6_undo_X0_isEmpty : GoodIn wsX6_undo wsX0_isEmpty := goodIn_r _ [8, 9, 48, 49, 50] rfl (by decide +kernel)
set_option maxRecDepth 20000 in
theorem gX6_undo_X0_isEmpty_n235 : GoodIn wsX6_undo (wsX0_isEmpty) := ggX6_undo_X0_isEmpty
set_option maxRecDepth 20000 in
theorem ggX6_undo_X0_takeBack : GoodIn wsX6_undo wsX0_takeBack := goodIn_r _ [12, 9, 13, 14, 15, 5, 7, 6, 8, 16, 17, 18, 19, 20, 21, 22, 23, 24, 25, 26, 27, 28, 29, 30, 31, 32, 33, 34, 35, 36, 37, 38, 39, 40, 41, 42, 48, 49, 50, 51, 52, 53, 54, 55, 56, 57, 58, 59, 60, 61, 62, 63, 64] rfl (by decide +kernel)
set_option maxRecDepth 20000 in
theorem gX6_undo_X0_takeBack_n240 : GoodIn wsX6_undo (wsX0_takeBack) := ggX6_undo_X0_takeBack
theorem dX6_undo_0 : decode cX6_undo 0 = .ok (.aload_n 0, 1) := by decide +kernel
theorem dX6_undo_1 : decode cX6_undo 1 = .ok (.getfield 29, 3) := by decide +kernel
theorem dX6_undo_4 : decode cX6_undo 4 = .ok (.invokevirtual 235, 3) := by decide +kernel
theorem dX6_undo_7 : decode cX6_undo 7 = .ok (.ifCond .eq 13, 3) := by decide +kernel
theorem dX6_undo_10 : decode cX6_undo 10 = .ok (.new 51, 3) := by decide +kernel
theorem dX6_undo_13 : decode cX6_undo 13 = .ok (.dup, 1) := by decide +kernel
theorem dX6_undo_14 : decode cX6_undo 14 = .ok (.ldc 238, 2) := by decide +kernel
theorem dX6_undo_16 : decode cX6_undo 16 = .ok (.invokespecial 55, 3) := by decide +kernel
theorem dX6_undo_19 : decode cX6_undo 19 = .ok (.athrow, 1) := by decide +kernel
theorem dX6_undo_20 : decode cX6_undo 20 = .ok (.aload_n 0, 1) := by decide +kernel
theorem dX6_undo_21 : decode cX6_undo 21 = .ok (.getfield 29, 3) := by decide +kernel
theorem dX6_undo_24 : decode cX6_undo 24 = .ok (.aload_n 0, 1) := by decide +kernel
theorem dX6_undo_25 : decode cX6_undo 25 = .ok (.getfield 19, 3) := by decide +kernel
theorem dX6_undo_28 : decode cX6_undo 28 = .ok (.invokevirtual 240, 3) := by decide +kernel
theorem dX6_undo_31 : decode cX6_undo 31 = .ok (.ireturn, 1) := by decide +kernel
set_option maxRecDepth 20000 in
theorem ggX6_why_X6_requireLength : GoodIn wsX6_why wsX6_requireLength := goodIn_ca (goodIn_r _ [5, 6, 7, 8, 9, 4, 10] rfl (by decide +kernel)) (goodIn_sub (fun _ h => List.mem_cons_of_mem _ (List.mem_append_right _ h)) (by decide +kernel))
