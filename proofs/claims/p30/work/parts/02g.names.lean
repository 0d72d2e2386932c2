theorem dL_call_188 : decode cL_call 188 = .ok (.ireturn, 1) := by decide +kernel
theorem dL_call_189 : decode cL_call 189 = .ok (.aload_n 0, 1) := by decide +kernel
theorem dL_call_190 : decode cL_call 190 = .ok (.iload_n 2, 1) := by decide +kernel
theorem dL_call_191 : decode cL_call 191 = .ok (.invokestatic 149, 3) := by decide +kernel
theorem dL_call_194 : decode cL_call 194 = .ok (.ireturn, 1) := by decide +kernel
theorem dL_call_195 : decode cL_call 195 = .ok (.aload_n 0, 1) := by decide +kernel
theorem dL_call_196 : decode cL_call 196 = .ok (.iload_n 2, 1) := by decide +kernel
theorem dL_call_197 : decode cL_call 197 = .ok (.iload_n 3, 1) := by decide +kernel
theorem dL_call_198 : decode cL_call 198 = .ok (.invokestatic 152, 3) := by decide +kernel
theorem dL_call_201 : decode cL_call 201 = .ok (.ireturn, 1) := by decide +kernel
theorem dL_call_202 : decode cL_call 202 = .ok (.aload_n 0, 1) := by decide +kernel
theorem dL_call_203 : decode cL_call 203 = .ok (.iload_n 2, 1) := by decide +kernel
theorem dL_call_204 : decode cL_call 204 = .ok (.invokestatic 155, 3) := by decide +kernel
theorem dL_call_207 : decode cL_call 207 = .ok (.ireturn, 1) := by decide +kernel
theorem dL_call_208 : decode cL_call 208 = .ok (.aload_n 0, 1) := by decide +kernel
theorem dL_call_209 : decode cL_call 209 = .ok (.iload_n 2, 1) := by decide +kernel
theorem dL_call_210 : decode cL_call 210 = .ok (.iload_n 3, 1) := by decide +kernel
theorem dL_call_211 : decode cL_call 211 = .ok (.invokestatic 158, 3) := by decide +kernel
theorem dL_call_214 : decode cL_call 214 = .ok (.ireturn, 1) := by decide +kernel
theorem dL_call_215 : decode cL_call 215 = .ok (.aload_n 0, 1) := by decide +kernel
theorem dL_call_216 : decode cL_call 216 = .ok (.iload_n 2, 1) := by decide +kernel
theorem dL_call_217 : decode cL_call 217 = .ok (.invokestatic 161, 3) := by decide +kernel
theorem dL_call_220 : decode cL_call 220 = .ok (.ireturn, 1) := by decide +kernel
theorem dL_call_221 : decode cL_call 221 = .ok (.aload_n 0, 1) := by decide +kernel
theorem dL_call_222 : decode cL_call 222 = .ok (.iload_n 2, 1) := by decide +kernel
theorem dL_call_223 : decode cL_call 223 = .ok (.invokestatic 164, 3) := by decide +kernel
theorem dL_call_226 : decode cL_call 226 = .ok (.ireturn, 1) := by decide +kernel
theorem dL_cell_0 : decode cL_cell 0 = .ok (.iload_n 1, 1) := by decide +kernel
theorem dL_cell_1 : decode cL_cell 1 = .ok (.aload_n 0, 1) := by decide +kernel
theorem dL_cell_2 : decode cL_cell 2 = .ok (.arraylength, 1) := by decide +kernel
theorem dL_cell_3 : decode cL_cell 3 = .ok (.if_icmp .ge 9, 3) := by decide +kernel
theorem dL_cell_6 : decode cL_cell 6 = .ok (.aload_n 0, 1) := by decide +kernel
theorem dL_cell_7 : decode cL_cell 7 = .ok (.iload_n 1, 1) := by decide +kernel
theorem dL_cell_8 : decode cL_cell 8 = .ok (.iaload, 1) := by decide +kernel
theorem dL_cell_9 : decode cL_cell 9 = .ok (.goto 13, 3) := by decide +kernel
theorem dL_cell_12 : decode cL_cell 12 = .ok (.ldc 167, 2) := by decide +kernel
theorem dL_cell_14 : decode cL_cell 14 = .ok (.iload_n 1, 1) := by decide +kernel
theorem dL_cell_15 : decode cL_cell 15 = .ok (.iconst 3, 1) := by decide +kernel
theorem dL_cell_16 : decode cL_cell 16 = .ok (.iadd, 1) := by decide +kernel
theorem dL_cell_17 : decode cL_cell 17 = .ok (.imul, 1) := by decide +kernel
theorem dL_cell_18 : decode cL_cell 18 = .ok (.sipush 11959, 3) := by decide +kernel
theorem dL_cell_21 : decode cL_cell 21 = .ok (.iadd, 1) := by decide +kernel
theorem dL_cell_22 : decode cL_cell 22 = .ok (.ldc 168, 2) := by decide +kernel
theorem dL_cell_24 : decode cL_cell 24 = .ok (.iand, 1) := by decide +kernel
theorem dL_cell_25 : decode cL_cell 25 = .ok (.ireturn, 1) := by decide +kernel
theorem dL_thrown_0 : decode cL_thrown 0 = .ok (.iload_n 0, 1) := by decide +kernel
theorem dL_thrown_1 : decode cL_thrown 1 = .ok (.ldc 15, 2) := by decide +kernel
theorem dL_thrown_3 : decode cL_thrown 3 = .ok (.if_icmp .eq 15, 3) := by decide +kernel
theorem dL_thrown_6 : decode cL_thrown 6 = .ok (.iload_n 0, 1) := by decide +kernel
theorem dL_thrown_7 : decode cL_thrown 7 = .ok (.ldc 25, 2) := by decide +kernel
theorem dL_thrown_9 : decode cL_thrown 9 = .ok (.if_icmp .eq 9, 3) := by decide +kernel
theorem dL_thrown_12 : decode cL_thrown 12 = .ok (.iload_n 0, 1) := by decide +kernel
theorem dL_thrown_13 : decode cL_thrown 13 = .ok (.ldc 18, 2) := by decide +kernel
theorem dL_thrown_15 : decode cL_thrown 15 = .ok (.if_icmp .ne 7, 3) := by decide +kernel
theorem dL_thrown_18 : decode cL_thrown 18 = .ok (.iconst 1, 1) := by decide +kernel
theorem dL_thrown_19 : decode cL_thrown 19 = .ok (.goto 4, 3) := by decide +kernel
theorem dL_thrown_22 : decode cL_thrown 22 = .ok (.iconst 0, 1) := by decide +kernel
theorem dL_thrown_23 : decode cL_thrown 23 = .ok (.ireturn, 1) := by decide +kernel
set_option maxRecDepth 20000 in
theorem ggL_refuses_L_call : GoodIn wsL_refuses wsL_call := goodIn_ca (goodIn_ca (goodIn_ca (goodIn_r _ [8, 9, 10, 7, 11, 12, 13, 1, 4, 14, 15, 16, 17, 18, 19, 20, 21, 22, 23, 24, 25, 26, 27, 28, 29, 30, 31, 32, 33, 34, 35, 36, 37, 38, 39, 40, 41, 42, 43, 44, 45, 46, 47, 48, 49, 50, 51, 52, 53, 54, 55, 56, 57, 58, 59, 60, 61, 62, 63, 64, 65, 66, 67, 68, 69, 70, 71, 72, 73, 74, 75, 76, 77, 78, 79, 80, 81, 82, 83, 84, 85, 86, 87, 88, 89, 90, 91, 92, 93, 94, 95, 96, 97, 98, 99, 100, 101, 102, 103, 104, 105, 106, 107, 108, 109, 110, 111, 112, 113, 114, 115, 116, 117, 118, 119, 120, 121, 122, 123, 124, 125, 126, 127, 128, 129, 130, 131, 132, 133, 134, 135, 136, 137, 138, 139, 140, 141, 142, 143, 144, 145, 146, 147, 148, 149, 150, 151, 152, 153, 154, 155, 156, 157, 158, 159, 160, 161, 162, 163, 164, 165, 166, 167, 168, 169, 170, 171, 172, 173, 174, 175, 176, 177, 178, 179, 180, 181, 182, 183, 184, 185, 186, 187, 188, 189, 190, 191, 192, 193, 194, 195, 196, 197, 198, 199, 200, 201, 202, 203, 204, 205, 206, 207, 208, 209, 210, 211, 212, 213, 214, 215, 216, 217, 218, 219, 220, 221, 222, 223, 224, 225, 226, 227, 228, 229, 230, 231, 232, 233, 234, 235, 236, 237, 238, 239, 240, 241, 242, 243, 244, 245, 246, 247, 248, 249, 250, 251, 252, 253, 254, 255, 256, 257, 258, 259, 260, 261, 262, 263, 2, 264, 265, 266, 267, 268, 269, 270, 271, 272, 273, 274, 275, 276, 277, 278, 279, 280, 281, 282, 283, 284, 285, 286, 287, 288, 289, 290, 291, 292, 293, 294, 295, 296, 297, 298, 299, 300, 301, 302, 303, 304, 305, 306, 307, 308, 309, 310, 311, 312, 313, 314, 315, 316, 317, 318, 319, 320, 321, 322, 323, 324, 325, 326, 327, 328, 329, 330, 331, 332, 333, 334, 335, 336, 337, 338, 339, 340, 341, 342, 343, 344, 345, 346, 347, 348, 349, 350, 351, 352, 353, 354, 355, 356, 357, 358, 359, 360, 361, 362, 363, 364, 365, 366, 367, 368, 369, 370, 371, 372, 373, 374, 375, 376, 377, 378, 379, 380, 381, 382, 383, 384, 385, 386, 387, 388, 389, 390, 391, 392, 393, 394, 395, 396, 397, 398, 399, 400, 401, 402, 403, 404, 405, 406, 407, 408, 409, 410, 411, 412, 413, 414, 415, 416, 417, 418, 419, 420, 421, 422, 423, 424, 425, 426, 427, 428, 429, 430, 431, 432, 433, 434, 435, 436, 437, 438, 439, 440, 441, 442, 443, 444, 445, 446, 447, 448, 449, 450, 451, 452, 453, 454, 455, 456, 457, 458, 459, 460, 461, 462, 463, 464, 465, 466, 467, 468, 469, 470, 471, 472, 473, 474, 475, 476, 477, 521, 522, 523, 524, 525, 526, 527, 528, 529, 530, 531, 532, 533, 534, 535, 536, 537, 538, 539, 540, 541, 542, 543, 544, 545, 546] rfl (by decide +kernel)) (goodIn_sub (fun _ h => List.mem_cons_of_mem _ (List.mem_append_left _ (List.mem_append_left _ (List.mem_append_right _ h)))) (by decide +kernel))) (goodIn_sub (fun _ h => List.mem_cons_of_mem _ (List.mem_append_left _ (List.mem_append_right _ h))) (by decide +kernel))) (goodIn_sub (fun _ h => List.mem_cons_of_mem _ (List.mem_append_right _ h)) (by decide +kernel))
set_option maxRecDepth 20000 in
theorem gL_refuses_L_call : GoodIn wsL_refuses (va_wsS RL 169 yL_call wsL_call) := goodIn_app (goodIn_r _ [5, 6, 7] rfl (by decide +kernel)) ggL_refuses_L_call
set_option maxRecDepth 20000 in
theorem ggL_refuses_L_hydrants : GoodIn wsL_refuses wsL_hydrants := goodIn_ca (goodIn_ca (goodIn_r _ [480, 263, 13, 2, 4, 481, 482, 483, 17, 484, 21, 22, 40, 41, 282, 283, 284, 272, 273, 285, 129, 130, 126, 82, 127, 128, 85, 131, 132, 133, 134, 135, 136, 318, 102, 319, 320, 105, 321, 322, 323, 324, 325, 326, 327, 100, 150, 151, 152, 153, 154, 155, 86, 87, 88, 89, 90, 91, 328, 329, 330, 331, 332, 333, 122, 123, 124, 125, 137, 138, 139, 140, 141, 142, 96, 97, 98, 99, 143, 144, 145, 146, 521, 522, 523, 524, 525, 528, 529, 530, 531, 532, 533, 534, 535, 536, 537, 538, 539, 540, 541, 542, 543, 544] rfl (by decide +kernel)) (goodIn_sub (fun _ h => List.mem_cons_of_mem _ (List.mem_append_left _ (List.mem_append_right _ h))) (by decide +kernel))) (goodIn_sub (fun _ h => List.mem_cons_of_mem _ (List.mem_append_right _ h)) (by decide +kernel))
set_option maxRecDepth 20000 in
theorem gL_refuses_L_hydrants : GoodIn wsL_refuses (va_wsS RL 173 yL_hydrants wsL_hydrants) := goodIn_app (goodIn_r _ [478, 479, 7] rfl (by decide +kernel)) ggL_refuses_L_hydrants
set_option maxRecDepth 20000 in
theorem ggL_refuses_L_jams : GoodIn wsL_refuses wsL_jams := goodIn_ca (goodIn_r _ [487, 12, 1, 488, 489, 490, 17, 491, 414, 40, 313, 314, 315, 19, 20, 316, 156, 157, 325, 82, 326, 327, 85, 100, 150, 151, 152, 153, 154, 155, 86, 87, 88, 89, 90, 91, 328, 329, 330, 331, 332, 333, 418, 419, 420, 168, 169, 170, 171, 172, 173, 174, 175, 176, 177, 178, 179, 180, 181, 182, 183, 184, 185, 186, 187, 188, 189, 190, 191, 137, 138, 139, 140, 141, 142, 96, 97, 98, 99, 521, 522, 523, 524, 525, 528, 529, 530, 531, 532, 533, 534, 535, 536, 537, 538, 539, 540, 541] rfl (by decide +kernel)) (goodIn_sub (fun _ h => List.mem_cons_of_mem _ (List.mem_append_left _ (List.mem_append_left _ (List.mem_append_right _ h)))) (by decide +kernel))
set_option maxRecDepth 20000 in
theorem gL_refuses_L_jams : GoodIn wsL_refuses (va_wsS RL 177 yL_jams wsL_jams) := goodIn_app (goodIn_r _ [485, 486, 7] rfl (by decide +kernel)) ggL_refuses_L_jams
set_option maxRecDepth 20000 in
theorem ggL_refuses_L_doScript : GoodIn wsL_refuses wsL_doScript := goodIn_ca (goodIn_r _ [494, 12, 1, 495, 496, 497, 17, 498, 19, 20, 499, 414, 40, 325, 82, 326, 327, 85, 100, 150, 151, 152, 153, 154, 155, 86, 87, 88, 89, 90, 91, 328, 329, 330, 331, 332, 333, 500, 501, 502, 503, 504, 505, 506, 147, 148, 149, 156, 157, 158, 159, 160, 161, 162, 163, 141, 142, 164, 165, 166, 167, 135, 136, 168, 169, 170, 171, 172, 173, 174, 175, 176, 177, 178, 179, 180, 181, 182, 183, 184, 185, 186, 187, 188, 189, 190, 191, 137, 138, 139, 140, 96, 97, 98, 99, 196, 197, 198, 199, 200, 201, 202, 192, 193, 194, 195, 203, 204, 205, 206, 207, 208, 209, 129, 130, 131, 132, 133, 134, 219, 220, 221, 222, 223, 224, 225, 226, 227, 228, 229, 230, 231, 232, 233, 234, 235, 236, 237, 238, 239, 240, 210, 211, 212, 213, 214, 215, 216, 217, 218, 122, 123, 124, 125, 126, 127, 128, 143, 144, 145, 146, 396, 397, 398, 399, 254, 255, 256, 415, 416, 417, 521, 522, 523, 524, 525, 528, 529, 530, 531, 532, 533, 534, 535, 536, 537, 538, 539, 540, 541] rfl (by decide +kernel)) (goodIn_sub (fun _ h => List.mem_cons_of_mem _ (List.mem_append_left _ (List.mem_append_left _ (List.mem_append_right _ h)))) (by decide +kernel))
set_option maxRecDepth 20000 in
theorem gL_refuses_L_doScript : GoodIn wsL_refuses (va_wsS RL 181 yL_doScript wsL_doScript) := goodIn_app (goodIn_r _ [492, 493, 7] rfl (by decide +kernel)) ggL_refuses_L_doScript
set_option maxRecDepth 20000 in
theorem ggL_refuses_L_doSimulate : GoodIn wsL_refuses wsL_doSimulate := goodIn_ca (goodIn_r _ [509, 12, 1, 510, 511, 512, 17, 513, 19, 20, 414, 40, 325, 82, 326, 327, 85, 100, 150, 151, 152, 153, 154, 155, 86, 87, 88, 89, 90, 91, 328, 329, 330, 331, 332, 333, 514, 172, 173, 174, 175, 515, 516, 517, 147, 148, 149, 156, 157, 158, 159, 160, 161, 162, 163, 141, 142, 164, 165, 166, 167, 135, 136, 168, 169, 170, 171, 176, 177, 178, 179, 180, 181, 182, 183, 184, 185, 186, 187, 188, 189, 190, 191, 137, 138, 139, 140, 96, 97, 98, 99, 192, 193, 194, 195, 196, 197, 198, 199, 200, 201, 202, 122, 123, 124, 125, 126, 127, 128, 129, 130, 131, 132, 133, 134, 143, 144, 145, 146, 518, 519, 520, 210, 211, 212, 213, 214, 215, 216, 217, 218, 219, 220, 221, 222, 223, 224, 225, 226, 227, 228, 229, 230, 231, 232, 233, 234, 235, 236, 237, 238, 239, 240, 248, 249, 250, 521, 522, 523, 524, 525, 528, 529, 530, 531, 532, 533, 534, 535, 536, 537, 538, 539, 540, 541] rfl (by decide +kernel)) (goodIn_sub (fun _ h => List.mem_cons_of_mem _ (List.mem_append_left _ (List.mem_append_left _ (List.mem_append_right _ h)))) (by decide +kernel))
set_option maxRecDepth 20000 in
theorem gL_refuses_L_doSimulate : GoodIn wsL_refuses (va_wsS RL 186 yL_doSimulate wsL_doSimulate) := goodIn_app (goodIn_r _ [507, 508, 7] rfl (by decide +kernel)) ggL_refuses_L_doSimulate
theorem dL_refuses_0 : decode cL_refuses 0 = .ok (.aload_n 0, 1) := by decide +kernel
theorem dL_refuses_1 : decode cL_refuses 1 = .ok (.iconst 2, 1) := by decide +kernel
theorem dL_refuses_2 : decode cL_refuses 2 = .ok (.iconst 0, 1) := by decide +kernel
theorem dL_refuses_3 : decode cL_refuses 3 = .ok (.iconst 0, 1) := by decide +kernel
theorem dL_refuses_4 : decode cL_refuses 4 = .ok (.iconst 0, 1) := by decide +kernel
theorem dL_refuses_5 : decode cL_refuses 5 = .ok (.invokestatic 169, 3) := by decide +kernel
theorem dL_refuses_8 : decode cL_refuses 8 = .ok (.istore_n 2, 1) := by decide +kernel
theorem dL_refuses_9 : decode cL_refuses 9 = .ok (.iload_n 1, 1) := by decide +kernel
theorem dL_refuses_10 : decode cL_refuses 10 = .ok (.iconst 2, 1) := by decide +kernel
theorem dL_refuses_11 : decode cL_refuses 11 = .ok (.irem, 1) := by decide +kernel
theorem dL_refuses_12 : decode cL_refuses 12 = .ok (.ifCond .ne 12, 3) := by decide +kernel
theorem dL_refuses_15 : decode cL_refuses 15 = .ok (.iconst (-1), 1) := by decide +kernel
theorem dL_refuses_16 : decode cL_refuses 16 = .ok (.iload_n 1, 1) := by decide +kernel
theorem dL_refuses_17 : decode cL_refuses 17 = .ok (.bipush 99, 2) := by decide +kernel
theorem dL_refuses_19 : decode cL_refuses 19 = .ok (.irem, 1) := by decide +kernel
theorem dL_refuses_20 : decode cL_refuses 20 = .ok (.isub, 1) := by decide +kernel
theorem dL_refuses_21 : decode cL_refuses 21 = .ok (.goto 9, 3) := by decide +kernel
theorem dL_refuses_24 : decode cL_refuses 24 = .ok (.iload_n 2, 1) := by decide +kernel
theorem dL_refuses_25 : decode cL_refuses 25 = .ok (.iload_n 1, 1) := by decide +kernel
theorem dL_refuses_26 : decode cL_refuses 26 = .ok (.bipush 99, 2) := by decide +kernel
theorem dL_refuses_28 : decode cL_refuses 28 = .ok (.irem, 1) := by decide +kernel
theorem dL_refuses_29 : decode cL_refuses 29 = .ok (.iadd, 1) := by decide +kernel
theorem dL_refuses_30 : decode cL_refuses 30 = .ok (.istore_n 3, 1) := by decide +kernel
theorem dL_refuses_31 : decode cL_refuses 31 = .ok (.iload_n 1, 1) := by decide +kernel
theorem dL_refuses_32 : decode cL_refuses 32 = .ok (.iconst 2, 1) := by decide +kernel
theorem dL_refuses_33 : decode cL_refuses 33 = .ok (.irem, 1) := by decide +kernel
theorem dL_refuses_34 : decode cL_refuses 34 = .ok (.ifCond .ne 12, 3) := by decide +kernel
theorem dL_refuses_37 : decode cL_refuses 37 = .ok (.iconst (-1), 1) := by decide +kernel
theorem dL_refuses_38 : decode cL_refuses 38 = .ok (.iload_n 1, 1) := by decide +kernel
theorem dL_refuses_39 : decode cL_refuses 39 = .ok (.bipush 99, 2) := by decide +kernel
theorem dL_refuses_41 : decode cL_refuses 41 = .ok (.irem, 1) := by decide +kernel
theorem dL_refuses_42 : decode cL_refuses 42 = .ok (.isub, 1) := by decide +kernel
theorem dL_refuses_43 : decode cL_refuses 43 = .ok (.goto 10, 3) := by decide +kernel
theorem dL_refuses_46 : decode cL_refuses 46 = .ok (.bipush 80, 2) := by decide +kernel
theorem dL_refuses_48 : decode cL_refuses 48 = .ok (.iload_n 1, 1) := by decide +kernel
theorem dL_refuses_49 : decode cL_refuses 49 = .ok (.bipush 99, 2) := by decide +kernel
theorem dL_refuses_51 : decode cL_refuses 51 = .ok (.irem, 1) := by decide +kernel
theorem dL_refuses_52 : decode cL_refuses 52 = .ok (.iadd, 1) := by decide +kernel
theorem dL_refuses_53 : decode cL_refuses 53 = .ok (.istore 4, 2) := by decide +kernel
theorem dL_refuses_55 : decode cL_refuses 55 = .ok (.aload_n 0, 1) := by decide +kernel
theorem dL_refuses_56 : decode cL_refuses 56 = .ok (.iconst 2, 1) := by decide +kernel
theorem dL_refuses_57 : decode cL_refuses 57 = .ok (.bipush 7, 2) := by decide +kernel
theorem dL_refuses_59 : decode cL_refuses 59 = .ok (.iconst 0, 1) := by decide +kernel
theorem dL_refuses_60 : decode cL_refuses 60 = .ok (.iconst 0, 1) := by decide +kernel
theorem dL_refuses_61 : decode cL_refuses 61 = .ok (.invokestatic 169, 3) := by decide +kernel
theorem dL_refuses_64 : decode cL_refuses 64 = .ok (.istore 5, 2) := by decide +kernel
theorem dL_refuses_66 : decode cL_refuses 66 = .ok (.iload_n 1, 1) := by decide +kernel
theorem dL_refuses_67 : decode cL_refuses 67 = .ok (.iconst 2, 1) := by decide +kernel
theorem dL_refuses_68 : decode cL_refuses 68 = .ok (.irem, 1) := by decide +kernel
theorem dL_refuses_69 : decode cL_refuses 69 = .ok (.ifCond .ne 12, 3) := by decide +kernel
theorem dL_refuses_72 : decode cL_refuses 72 = .ok (.iconst 1, 1) := by decide +kernel
theorem dL_refuses_73 : decode cL_refuses 73 = .ok (.iload_n 1, 1) := by decide +kernel
theorem dL_refuses_74 : decode cL_refuses 74 = .ok (.bipush 9, 2) := by decide +kernel
theorem dL_refuses_76 : decode cL_refuses 76 = .ok (.irem, 1) := by decide +kernel
theorem dL_refuses_77 : decode cL_refuses 77 = .ok (.isub, 1) := by decide +kernel
theorem dL_refuses_78 : decode cL_refuses 78 = .ok (.goto 10, 3) := by decide +kernel
theorem dL_refuses_81 : decode cL_refuses 81 = .ok (.bipush 9, 2) := by decide +kernel
theorem dL_refuses_83 : decode cL_refuses 83 = .ok (.iload_n 1, 1) := by decide +kernel
theorem dL_refuses_84 : decode cL_refuses 84 = .ok (.bipush 9, 2) := by decide +kernel
theorem dL_refuses_86 : decode cL_refuses 86 = .ok (.irem, 1) := by decide +kernel
theorem dL_refuses_87 : decode cL_refuses 87 = .ok (.iadd, 1) := by decide +kernel
theorem dL_refuses_88 : decode cL_refuses 88 = .ok (.istore 6, 2) := by decide +kernel
theorem dL_refuses_90 : decode cL_refuses 90 = .ok (.aload_n 0, 1) := by decide +kernel
theorem dL_refuses_91 : decode cL_refuses 91 = .ok (.iconst 0, 1) := by decide +kernel
theorem dL_refuses_92 : decode cL_refuses 92 = .ok (.iload_n 1, 1) := by decide +kernel
theorem dL_refuses_93 : decode cL_refuses 93 = .ok (.iconst 2, 1) := by decide +kernel
theorem dL_refuses_94 : decode cL_refuses 94 = .ok (.irem, 1) := by decide +kernel
theorem dL_refuses_95 : decode cL_refuses 95 = .ok (.ifCond .ne 12, 3) := by decide +kernel
theorem dL_refuses_98 : decode cL_refuses 98 = .ok (.iconst (-1), 1) := by decide +kernel
theorem dL_refuses_99 : decode cL_refuses 99 = .ok (.iload_n 1, 1) := by decide +kernel
theorem dL_refuses_100 : decode cL_refuses 100 = .ok (.bipush 9, 2) := by decide +kernel
theorem dL_refuses_102 : decode cL_refuses 102 = .ok (.irem, 1) := by decide +kernel
theorem dL_refuses_103 : decode cL_refuses 103 = .ok (.isub, 1) := by decide +kernel
theorem dL_refuses_104 : decode cL_refuses 104 = .ok (.goto 11, 3) := by decide +kernel
theorem dL_refuses_107 : decode cL_refuses 107 = .ok (.sipush 256, 3) := by decide +kernel
theorem dL_refuses_110 : decode cL_refuses 110 = .ok (.iload_n 1, 1) := by decide +kernel
theorem dL_refuses_111 : decode cL_refuses 111 = .ok (.bipush 9, 2) := by decide +kernel
theorem dL_refuses_113 : decode cL_refuses 113 = .ok (.irem, 1) := by decide +kernel
theorem dL_refuses_114 : decode cL_refuses 114 = .ok (.iadd, 1) := by decide +kernel
theorem dL_refuses_115 : decode cL_refuses 115 = .ok (.iconst 0, 1) := by decide +kernel
theorem dL_refuses_116 : decode cL_refuses 116 = .ok (.iconst 0, 1) := by decide +kernel
theorem dL_refuses_117 : decode cL_refuses 117 = .ok (.invokestatic 169, 3) := by decide +kernel
theorem dL_refuses_120 : decode cL_refuses 120 = .ok (.ldc 25, 2) := by decide +kernel
theorem dL_refuses_122 : decode cL_refuses 122 = .ok (.if_icmp .ne 613, 3) := by decide +kernel
theorem dL_refuses_125 : decode cL_refuses 125 = .ok (.aload_n 0, 1) := by decide +kernel
theorem dL_refuses_126 : decode cL_refuses 126 = .ok (.iconst 2, 1) := by decide +kernel
theorem dL_refuses_127 : decode cL_refuses 127 = .ok (.bipush 12, 2) := by decide +kernel
theorem dL_refuses_129 : decode cL_refuses 129 = .ok (.iload_n 1, 1) := by decide +kernel
theorem dL_refuses_130 : decode cL_refuses 130 = .ok (.bipush 50, 2) := by decide +kernel
theorem dL_refuses_132 : decode cL_refuses 132 = .ok (.irem, 1) := by decide +kernel
theorem dL_refuses_133 : decode cL_refuses 133 = .ok (.iadd, 1) := by decide +kernel
theorem dL_refuses_134 : decode cL_refuses 134 = .ok (.iconst 0, 1) := by decide +kernel
theorem dL_refuses_135 : decode cL_refuses 135 = .ok (.iconst 0, 1) := by decide +kernel
theorem dL_refuses_136 : decode cL_refuses 136 = .ok (.invokestatic 169, 3) := by decide +kernel
theorem dL_refuses_139 : decode cL_refuses 139 = .ok (.ldc 25, 2) := by decide +kernel
theorem dL_refuses_141 : decode cL_refuses 141 = .ok (.if_icmp .ne 594, 3) := by decide +kernel
theorem dL_refuses_144 : decode cL_refuses 144 = .ok (.aload_n 0, 1) := by decide +kernel
theorem dL_refuses_145 : decode cL_refuses 145 = .ok (.iconst 3, 1) := by decide +kernel
theorem dL_refuses_146 : decode cL_refuses 146 = .ok (.iload_n 3, 1) := by decide +kernel
theorem dL_refuses_147 : decode cL_refuses 147 = .ok (.bipush 99, 2) := by decide +kernel
theorem dL_refuses_149 : decode cL_refuses 149 = .ok (.iconst 0, 1) := by decide +kernel
theorem dL_refuses_150 : decode cL_refuses 150 = .ok (.invokestatic 169, 3) := by decide +kernel
theorem dL_refuses_153 : decode cL_refuses 153 = .ok (.ldc 15, 2) := by decide +kernel
theorem dL_refuses_155 : decode cL_refuses 155 = .ok (.if_icmp .ne 580, 3) := by decide +kernel
theorem dL_refuses_158 : decode cL_refuses 158 = .ok (.aload_n 0, 1) := by decide +kernel
theorem dL_refuses_159 : decode cL_refuses 159 = .ok (.iconst 3, 1) := by decide +kernel
theorem dL_refuses_160 : decode cL_refuses 160 = .ok (.iconst 0, 1) := by decide +kernel
theorem dL_refuses_161 : decode cL_refuses 161 = .ok (.bipush 7, 2) := by decide +kernel
theorem dL_refuses_163 : decode cL_refuses 163 = .ok (.iload_n 1, 1) := by decide +kernel
theorem dL_refuses_164 : decode cL_refuses 164 = .ok (.bipush 9, 2) := by decide +kernel
theorem dL_refuses_166 : decode cL_refuses 166 = .ok (.irem, 1) := by decide +kernel
theorem dL_refuses_167 : decode cL_refuses 167 = .ok (.iadd, 1) := by decide +kernel
theorem dL_refuses_168 : decode cL_refuses 168 = .ok (.iconst 0, 1) := by decide +kernel
theorem dL_refuses_169 : decode cL_refuses 169 = .ok (.invokestatic 169, 3) := by decide +kernel
theorem dL_refuses_172 : decode cL_refuses 172 = .ok (.ldc 25, 2) := by decide +kernel
theorem dL_refuses_174 : decode cL_refuses 174 = .ok (.if_icmp .ne 561, 3) := by decide +kernel
theorem dL_refuses_177 : decode cL_refuses 177 = .ok (.aload_n 0, 1) := by decide +kernel
theorem dL_refuses_178 : decode cL_refuses 178 = .ok (.iconst 4, 1) := by decide +kernel
theorem dL_refuses_179 : decode cL_refuses 179 = .ok (.iload 4, 2) := by decide +kernel
theorem dL_refuses_181 : decode cL_refuses 181 = .ok (.iconst 0, 1) := by decide +kernel
theorem dL_refuses_182 : decode cL_refuses 182 = .ok (.iconst 0, 1) := by decide +kernel
theorem dL_refuses_183 : decode cL_refuses 183 = .ok (.invokestatic 169, 3) := by decide +kernel
theorem dL_refuses_186 : decode cL_refuses 186 = .ok (.ldc 15, 2) := by decide +kernel
theorem dL_refuses_188 : decode cL_refuses 188 = .ok (.if_icmp .ne 547, 3) := by decide +kernel
theorem dL_refuses_191 : decode cL_refuses 191 = .ok (.aload_n 0, 1) := by decide +kernel
theorem dL_refuses_192 : decode cL_refuses 192 = .ok (.iconst 5, 1) := by decide +kernel
theorem dL_refuses_193 : decode cL_refuses 193 = .ok (.iload 5, 2) := by decide +kernel
theorem dL_refuses_195 : decode cL_refuses 195 = .ok (.iload_n 1, 1) := by decide +kernel
theorem dL_refuses_196 : decode cL_refuses 196 = .ok (.bipush 9, 2) := by decide +kernel
theorem dL_refuses_198 : decode cL_refuses 198 = .ok (.irem, 1) := by decide +kernel
theorem dL_refuses_199 : decode cL_refuses 199 = .ok (.iadd, 1) := by decide +kernel
theorem dL_refuses_200 : decode cL_refuses 200 = .ok (.bipush 9, 2) := by decide +kernel
theorem dL_refuses_202 : decode cL_refuses 202 = .ok (.iconst 0, 1) := by decide +kernel
theorem dL_refuses_203 : decode cL_refuses 203 = .ok (.invokestatic 169, 3) := by decide +kernel
theorem dL_refuses_206 : decode cL_refuses 206 = .ok (.ldc 15, 2) := by decide +kernel
theorem dL_refuses_208 : decode cL_refuses 208 = .ok (.if_icmp .ne 527, 3) := by decide +kernel
theorem dL_refuses_211 : decode cL_refuses 211 = .ok (.aload_n 0, 1) := by decide +kernel
theorem dL_refuses_212 : decode cL_refuses 212 = .ok (.iconst 5, 1) := by decide +kernel
theorem dL_refuses_213 : decode cL_refuses 213 = .ok (.iconst (-1), 1) := by decide +kernel
theorem dL_refuses_214 : decode cL_refuses 214 = .ok (.iload_n 1, 1) := by decide +kernel
theorem dL_refuses_215 : decode cL_refuses 215 = .ok (.bipush 9, 2) := by decide +kernel
theorem dL_refuses_217 : decode cL_refuses 217 = .ok (.irem, 1) := by decide +kernel
theorem dL_refuses_218 : decode cL_refuses 218 = .ok (.isub, 1) := by decide +kernel
theorem dL_refuses_219 : decode cL_refuses 219 = .ok (.iconst 0, 1) := by decide +kernel
theorem dL_refuses_220 : decode cL_refuses 220 = .ok (.iconst 0, 1) := by decide +kernel
theorem dL_refuses_221 : decode cL_refuses 221 = .ok (.invokestatic 169, 3) := by decide +kernel
theorem dL_refuses_224 : decode cL_refuses 224 = .ok (.ldc 15, 2) := by decide +kernel
theorem dL_refuses_226 : decode cL_refuses 226 = .ok (.if_icmp .ne 509, 3) := by decide +kernel
theorem dL_refuses_229 : decode cL_refuses 229 = .ok (.iload 5, 2) := by decide +kernel
theorem dL_refuses_231 : decode cL_refuses 231 = .ok (.ifCond .eq 21, 3) := by decide +kernel
theorem dL_refuses_234 : decode cL_refuses 234 = .ok (.aload_n 0, 1) := by decide +kernel
theorem dL_refuses_235 : decode cL_refuses 235 = .ok (.iconst 5, 1) := by decide +kernel
theorem dL_refuses_236 : decode cL_refuses 236 = .ok (.iconst 0, 1) := by decide +kernel
theorem dL_refuses_237 : decode cL_refuses 237 = .ok (.iconst 2, 1) := by decide +kernel
theorem dL_refuses_238 : decode cL_refuses 238 = .ok (.iload_n 1, 1) := by decide +kernel
theorem dL_refuses_239 : decode cL_refuses 239 = .ok (.bipush 9, 2) := by decide +kernel
theorem dL_refuses_241 : decode cL_refuses 241 = .ok (.irem, 1) := by decide +kernel
theorem dL_refuses_242 : decode cL_refuses 242 = .ok (.iadd, 1) := by decide +kernel
theorem dL_refuses_243 : decode cL_refuses 243 = .ok (.iconst 0, 1) := by decide +kernel
theorem dL_refuses_244 : decode cL_refuses 244 = .ok (.invokestatic 169, 3) := by decide +kernel
theorem dL_refuses_247 : decode cL_refuses 247 = .ok (.ldc 25, 2) := by decide +kernel
theorem dL_refuses_249 : decode cL_refuses 249 = .ok (.if_icmp .ne 486, 3) := by decide +kernel
theorem dL_refuses_252 : decode cL_refuses 252 = .ok (.aload_n 0, 1) := by decide +kernel
theorem dL_refuses_253 : decode cL_refuses 253 = .ok (.bipush 6, 2) := by decide +kernel
theorem dL_refuses_255 : decode cL_refuses 255 = .ok (.iconst 3, 1) := by decide +kernel
theorem dL_refuses_256 : decode cL_refuses 256 = .ok (.iload_n 1, 1) := by decide +kernel
theorem dL_refuses_257 : decode cL_refuses 257 = .ok (.bipush 9, 2) := by decide +kernel
theorem dL_refuses_259 : decode cL_refuses 259 = .ok (.irem, 1) := by decide +kernel
theorem dL_refuses_260 : decode cL_refuses 260 = .ok (.iadd, 1) := by decide +kernel
theorem dL_refuses_261 : decode cL_refuses 261 = .ok (.iconst 0, 1) := by decide +kernel
theorem dL_refuses_262 : decode cL_refuses 262 = .ok (.iconst 0, 1) := by decide +kernel
theorem dL_refuses_263 : decode cL_refuses 263 = .ok (.invokestatic 169, 3) := by decide +kernel
theorem dL_refuses_266 : decode cL_refuses 266 = .ok (.ldc 25, 2) := by decide +kernel
theorem dL_refuses_268 : decode cL_refuses 268 = .ok (.if_icmp .ne 467, 3) := by decide +kernel
theorem dL_refuses_271 : decode cL_refuses 271 = .ok (.aload_n 0, 1) := by decide +kernel
theorem dL_refuses_272 : decode cL_refuses 272 = .ok (.iload 4, 2) := by decide +kernel
theorem dL_refuses_274 : decode cL_refuses 274 = .ok (.iconst 1, 1) := by decide +kernel
theorem dL_refuses_275 : decode cL_refuses 275 = .ok (.invokestatic 173, 3) := by decide +kernel
theorem dL_refuses_278 : decode cL_refuses 278 = .ok (.ldc 15, 2) := by decide +kernel
theorem dL_refuses_280 : decode cL_refuses 280 = .ok (.if_icmp .ne 455, 3) := by decide +kernel
theorem dL_refuses_283 : decode cL_refuses 283 = .ok (.aload_n 0, 1) := by decide +kernel
theorem dL_refuses_284 : decode cL_refuses 284 = .ok (.bipush 7, 2) := by decide +kernel
theorem dL_refuses_286 : decode cL_refuses 286 = .ok (.iload 6, 2) := by decide +kernel
theorem dL_refuses_288 : decode cL_refuses 288 = .ok (.iconst 5, 1) := by decide +kernel
theorem dL_refuses_289 : decode cL_refuses 289 = .ok (.iconst 0, 1) := by decide +kernel
theorem dL_refuses_290 : decode cL_refuses 290 = .ok (.invokestatic 169, 3) := by decide +kernel
theorem dL_refuses_293 : decode cL_refuses 293 = .ok (.ldc 25, 2) := by decide +kernel
theorem dL_refuses_295 : decode cL_refuses 295 = .ok (.if_icmp .ne 440, 3) := by decide +kernel
theorem dL_refuses_298 : decode cL_refuses 298 = .ok (.aload_n 0, 1) := by decide +kernel
theorem dL_refuses_299 : decode cL_refuses 299 = .ok (.bipush 7, 2) := by decide +kernel
theorem dL_refuses_301 : decode cL_refuses 301 = .ok (.iconst 5, 1) := by decide +kernel
theorem dL_refuses_302 : decode cL_refuses 302 = .ok (.iload_n 1, 1) := by decide +kernel
theorem dL_refuses_303 : decode cL_refuses 303 = .ok (.iconst 2, 1) := by decide +kernel
theorem dL_refuses_304 : decode cL_refuses 304 = .ok (.irem, 1) := by decide +kernel
theorem dL_refuses_305 : decode cL_refuses 305 = .ok (.ifCond .ne 7, 3) := by decide +kernel
theorem dL_refuses_308 : decode cL_refuses 308 = .ok (.iconst 0, 1) := by decide +kernel
theorem dL_refuses_309 : decode cL_refuses 309 = .ok (.goto 10, 3) := by decide +kernel
theorem dL_refuses_312 : decode cL_refuses 312 = .ok (.bipush 100, 2) := by decide +kernel
theorem dL_refuses_314 : decode cL_refuses 314 = .ok (.iload_n 1, 1) := by decide +kernel
theorem dL_refuses_315 : decode cL_refuses 315 = .ok (.bipush 9, 2) := by decide +kernel
theorem dL_refuses_317 : decode cL_refuses 317 = .ok (.irem, 1) := by decide +kernel
theorem dL_refuses_318 : decode cL_refuses 318 = .ok (.iadd, 1) := by decide +kernel
theorem dL_refuses_319 : decode cL_refuses 319 = .ok (.iconst 0, 1) := by decide +kernel
theorem dL_refuses_320 : decode cL_refuses 320 = .ok (.invokestatic 169, 3) := by decide +kernel
theorem dL_refuses_323 : decode cL_refuses 323 = .ok (.ldc 25, 2) := by decide +kernel
theorem dL_refuses_325 : decode cL_refuses 325 = .ok (.if_icmp .ne 410, 3) := by decide +kernel
theorem dL_refuses_328 : decode cL_refuses 328 = .ok (.aload_n 0, 1) := by decide +kernel
theorem dL_refuses_329 : decode cL_refuses 329 = .ok (.bipush 8, 2) := by decide +kernel
theorem dL_refuses_331 : decode cL_refuses 331 = .ok (.iload_n 3, 1) := by decide +kernel
theorem dL_refuses_332 : decode cL_refuses 332 = .ok (.iconst 0, 1) := by decide +kernel
theorem dL_refuses_333 : decode cL_refuses 333 = .ok (.iconst 0, 1) := by decide +kernel
theorem dL_refuses_334 : decode cL_refuses 334 = .ok (.invokestatic 169, 3) := by decide +kernel
theorem dL_refuses_337 : decode cL_refuses 337 = .ok (.ldc 15, 2) := by decide +kernel
theorem dL_refuses_339 : decode cL_refuses 339 = .ok (.if_icmp .ne 396, 3) := by decide +kernel
theorem dL_refuses_342 : decode cL_refuses 342 = .ok (.aload_n 0, 1) := by decide +kernel
theorem dL_refuses_343 : decode cL_refuses 343 = .ok (.bipush 9, 2) := by decide +kernel
theorem dL_refuses_345 : decode cL_refuses 345 = .ok (.iload_n 3, 1) := by decide +kernel
theorem dL_refuses_346 : decode cL_refuses 346 = .ok (.iconst 0, 1) := by decide +kernel
theorem dL_refuses_347 : decode cL_refuses 347 = .ok (.iconst 0, 1) := by decide +kernel
theorem dL_refuses_348 : decode cL_refuses 348 = .ok (.invokestatic 169, 3) := by decide +kernel
theorem dL_refuses_351 : decode cL_refuses 351 = .ok (.ldc 15, 2) := by decide +kernel
theorem dL_refuses_353 : decode cL_refuses 353 = .ok (.if_icmp .ne 382, 3) := by decide +kernel
theorem dL_refuses_356 : decode cL_refuses 356 = .ok (.aload_n 0, 1) := by decide +kernel
theorem dL_refuses_357 : decode cL_refuses 357 = .ok (.bipush 10, 2) := by decide +kernel
theorem dL_refuses_359 : decode cL_refuses 359 = .ok (.iload_n 3, 1) := by decide +kernel
theorem dL_refuses_360 : decode cL_refuses 360 = .ok (.iconst 0, 1) := by decide +kernel
theorem dL_refuses_361 : decode cL_refuses 361 = .ok (.iconst 0, 1) := by decide +kernel
theorem dL_refuses_362 : decode cL_refuses 362 = .ok (.invokestatic 169, 3) := by decide +kernel
theorem dL_refuses_365 : decode cL_refuses 365 = .ok (.ldc 15, 2) := by decide +kernel
theorem dL_refuses_367 : decode cL_refuses 367 = .ok (.if_icmp .ne 368, 3) := by decide +kernel
theorem dL_refuses_370 : decode cL_refuses 370 = .ok (.aload_n 0, 1) := by decide +kernel
theorem dL_refuses_371 : decode cL_refuses 371 = .ok (.bipush 10, 2) := by decide +kernel
theorem dL_refuses_373 : decode cL_refuses 373 = .ok (.iconst 0, 1) := by decide +kernel
theorem dL_refuses_374 : decode cL_refuses 374 = .ok (.iload 4, 2) := by decide +kernel
theorem dL_refuses_376 : decode cL_refuses 376 = .ok (.iconst 0, 1) := by decide +kernel
theorem dL_refuses_377 : decode cL_refuses 377 = .ok (.invokestatic 169, 3) := by decide +kernel
theorem dL_refuses_380 : decode cL_refuses 380 = .ok (.ldc 15, 2) := by decide +kernel
theorem dL_refuses_382 : decode cL_refuses 382 = .ok (.if_icmp .ne 353, 3) := by decide +kernel
theorem dL_refuses_385 : decode cL_refuses 385 = .ok (.aload_n 0, 1) := by decide +kernel
theorem dL_refuses_386 : decode cL_refuses 386 = .ok (.bipush 11, 2) := by decide +kernel
theorem dL_refuses_388 : decode cL_refuses 388 = .ok (.iload_n 1, 1) := by decide +kernel
theorem dL_refuses_389 : decode cL_refuses 389 = .ok (.iconst 2, 1) := by decide +kernel
theorem dL_refuses_390 : decode cL_refuses 390 = .ok (.irem, 1) := by decide +kernel
theorem dL_refuses_391 : decode cL_refuses 391 = .ok (.ifCond .ne 7, 3) := by decide +kernel
theorem dL_refuses_394 : decode cL_refuses 394 = .ok (.iconst 0, 1) := by decide +kernel
theorem dL_refuses_395 : decode cL_refuses 395 = .ok (.goto 10, 3) := by decide +kernel
theorem dL_refuses_398 : decode cL_refuses 398 = .ok (.bipush 61, 2) := by decide +kernel
theorem dL_refuses_400 : decode cL_refuses 400 = .ok (.iload_n 1, 1) := by decide +kernel
theorem dL_refuses_401 : decode cL_refuses 401 = .ok (.bipush 9, 2) := by decide +kernel
theorem dL_refuses_403 : decode cL_refuses 403 = .ok (.irem, 1) := by decide +kernel
theorem dL_refuses_404 : decode cL_refuses 404 = .ok (.iadd, 1) := by decide +kernel
theorem dL_refuses_405 : decode cL_refuses 405 = .ok (.iconst 0, 1) := by decide +kernel
theorem dL_refuses_406 : decode cL_refuses 406 = .ok (.iconst 0, 1) := by decide +kernel
theorem dL_refuses_407 : decode cL_refuses 407 = .ok (.invokestatic 169, 3) := by decide +kernel
theorem dL_refuses_410 : decode cL_refuses 410 = .ok (.ldc 25, 2) := by decide +kernel
theorem dL_refuses_412 : decode cL_refuses 412 = .ok (.if_icmp .ne 323, 3) := by decide +kernel
theorem dL_refuses_415 : decode cL_refuses 415 = .ok (.aload_n 0, 1) := by decide +kernel
theorem dL_refuses_416 : decode cL_refuses 416 = .ok (.bipush 12, 2) := by decide +kernel
theorem dL_refuses_418 : decode cL_refuses 418 = .ok (.iconst 0, 1) := by decide +kernel
theorem dL_refuses_419 : decode cL_refuses 419 = .ok (.iload_n 1, 1) := by decide +kernel
theorem dL_refuses_420 : decode cL_refuses 420 = .ok (.iconst 2, 1) := by decide +kernel
theorem dL_refuses_421 : decode cL_refuses 421 = .ok (.irem, 1) := by decide +kernel
theorem dL_refuses_422 : decode cL_refuses 422 = .ok (.ifCond .ne 7, 3) := by decide +kernel
theorem dL_refuses_425 : decode cL_refuses 425 = .ok (.iconst (-1), 1) := by decide +kernel
theorem dL_refuses_426 : decode cL_refuses 426 = .ok (.goto 9, 3) := by decide +kernel
theorem dL_refuses_429 : decode cL_refuses 429 = .ok (.iconst 3, 1) := by decide +kernel
theorem dL_refuses_430 : decode cL_refuses 430 = .ok (.iload_n 1, 1) := by decide +kernel
theorem dL_refuses_431 : decode cL_refuses 431 = .ok (.bipush 9, 2) := by decide +kernel
theorem dL_refuses_433 : decode cL_refuses 433 = .ok (.irem, 1) := by decide +kernel
theorem dL_refuses_434 : decode cL_refuses 434 = .ok (.iadd, 1) := by decide +kernel
theorem dL_refuses_435 : decode cL_refuses 435 = .ok (.iconst 0, 1) := by decide +kernel
theorem dL_refuses_436 : decode cL_refuses 436 = .ok (.invokestatic 169, 3) := by decide +kernel
theorem dL_refuses_439 : decode cL_refuses 439 = .ok (.ldc 25, 2) := by decide +kernel
theorem dL_refuses_441 : decode cL_refuses 441 = .ok (.if_icmp .ne 294, 3) := by decide +kernel
theorem dL_refuses_444 : decode cL_refuses 444 = .ok (.aload_n 0, 1) := by decide +kernel
theorem dL_refuses_445 : decode cL_refuses 445 = .ok (.bipush 12, 2) := by decide +kernel
theorem dL_refuses_447 : decode cL_refuses 447 = .ok (.iconst 1, 1) := by decide +kernel
theorem dL_refuses_448 : decode cL_refuses 448 = .ok (.iload_n 1, 1) := by decide +kernel
theorem dL_refuses_449 : decode cL_refuses 449 = .ok (.iconst 2, 1) := by decide +kernel
theorem dL_refuses_450 : decode cL_refuses 450 = .ok (.irem, 1) := by decide +kernel
theorem dL_refuses_451 : decode cL_refuses 451 = .ok (.ifCond .ne 7, 3) := by decide +kernel
theorem dL_refuses_454 : decode cL_refuses 454 = .ok (.iconst (-1), 1) := by decide +kernel
theorem dL_refuses_455 : decode cL_refuses 455 = .ok (.goto 9, 3) := by decide +kernel
theorem dL_refuses_458 : decode cL_refuses 458 = .ok (.iconst 5, 1) := by decide +kernel
theorem dL_refuses_459 : decode cL_refuses 459 = .ok (.iload_n 1, 1) := by decide +kernel
theorem dL_refuses_460 : decode cL_refuses 460 = .ok (.bipush 9, 2) := by decide +kernel
theorem dL_refuses_462 : decode cL_refuses 462 = .ok (.irem, 1) := by decide +kernel
theorem dL_refuses_463 : decode cL_refuses 463 = .ok (.iadd, 1) := by decide +kernel
theorem dL_refuses_464 : decode cL_refuses 464 = .ok (.iconst 0, 1) := by decide +kernel
theorem dL_refuses_465 : decode cL_refuses 465 = .ok (.invokestatic 169, 3) := by decide +kernel
theorem dL_refuses_468 : decode cL_refuses 468 = .ok (.ldc 25, 2) := by decide +kernel
theorem dL_refuses_470 : decode cL_refuses 470 = .ok (.if_icmp .ne 265, 3) := by decide +kernel
theorem dL_refuses_473 : decode cL_refuses 473 = .ok (.aload_n 0, 1) := by decide +kernel
theorem dL_refuses_474 : decode cL_refuses 474 = .ok (.bipush 12, 2) := by decide +kernel
theorem dL_refuses_476 : decode cL_refuses 476 = .ok (.iconst 2, 1) := by decide +kernel
theorem dL_refuses_477 : decode cL_refuses 477 = .ok (.iload_n 1, 1) := by decide +kernel
theorem dL_refuses_478 : decode cL_refuses 478 = .ok (.iconst 2, 1) := by decide +kernel
theorem dL_refuses_479 : decode cL_refuses 479 = .ok (.irem, 1) := by decide +kernel
theorem dL_refuses_480 : decode cL_refuses 480 = .ok (.ifCond .ne 7, 3) := by decide +kernel
theorem dL_refuses_483 : decode cL_refuses 483 = .ok (.iconst 0, 1) := by decide +kernel
theorem dL_refuses_484 : decode cL_refuses 484 = .ok (.goto 10, 3) := by decide +kernel
theorem dL_refuses_487 : decode cL_refuses 487 = .ok (.bipush 31, 2) := by decide +kernel
theorem dL_refuses_489 : decode cL_refuses 489 = .ok (.iload_n 1, 1) := by decide +kernel
theorem dL_refuses_490 : decode cL_refuses 490 = .ok (.bipush 9, 2) := by decide +kernel
theorem dL_refuses_492 : decode cL_refuses 492 = .ok (.irem, 1) := by decide +kernel
theorem dL_refuses_493 : decode cL_refuses 493 = .ok (.iadd, 1) := by decide +kernel
theorem dL_refuses_494 : decode cL_refuses 494 = .ok (.iconst 0, 1) := by decide +kernel
theorem dL_refuses_495 : decode cL_refuses 495 = .ok (.invokestatic 169, 3) := by decide +kernel
theorem dL_refuses_498 : decode cL_refuses 498 = .ok (.ldc 25, 2) := by decide +kernel
theorem dL_refuses_500 : decode cL_refuses 500 = .ok (.if_icmp .ne 235, 3) := by decide +kernel
theorem dL_refuses_503 : decode cL_refuses 503 = .ok (.aload_n 0, 1) := by decide +kernel
theorem dL_refuses_504 : decode cL_refuses 504 = .ok (.bipush 12, 2) := by decide +kernel
theorem dL_refuses_506 : decode cL_refuses 506 = .ok (.iconst 3, 1) := by decide +kernel
theorem dL_refuses_507 : decode cL_refuses 507 = .ok (.iload_n 1, 1) := by decide +kernel
theorem dL_refuses_508 : decode cL_refuses 508 = .ok (.bipush 9, 2) := by decide +kernel
theorem dL_refuses_510 : decode cL_refuses 510 = .ok (.irem, 1) := by decide +kernel
theorem dL_refuses_511 : decode cL_refuses 511 = .ok (.iadd, 1) := by decide +kernel
theorem dL_refuses_512 : decode cL_refuses 512 = .ok (.iconst 1, 1) := by decide +kernel
theorem dL_refuses_513 : decode cL_refuses 513 = .ok (.iconst 0, 1) := by decide +kernel
theorem dL_refuses_514 : decode cL_refuses 514 = .ok (.invokestatic 169, 3) := by decide +kernel
theorem dL_refuses_517 : decode cL_refuses 517 = .ok (.ldc 25, 2) := by decide +kernel
theorem dL_refuses_519 : decode cL_refuses 519 = .ok (.if_icmp .ne 216, 3) := by decide +kernel
theorem dL_refuses_522 : decode cL_refuses 522 = .ok (.aload_n 0, 1) := by decide +kernel
theorem dL_refuses_523 : decode cL_refuses 523 = .ok (.bipush 14, 2) := by decide +kernel
theorem dL_refuses_525 : decode cL_refuses 525 = .ok (.iload 6, 2) := by decide +kernel
theorem dL_refuses_527 : decode cL_refuses 527 = .ok (.iconst 0, 1) := by decide +kernel
theorem dL_refuses_528 : decode cL_refuses 528 = .ok (.iconst 0, 1) := by decide +kernel
theorem dL_refuses_529 : decode cL_refuses 529 = .ok (.invokestatic 169, 3) := by decide +kernel
theorem dL_refuses_532 : decode cL_refuses 532 = .ok (.ldc 25, 2) := by decide +kernel
theorem dL_refuses_534 : decode cL_refuses 534 = .ok (.if_icmp .ne 201, 3) := by decide +kernel
theorem dL_refuses_537 : decode cL_refuses 537 = .ok (.aload_n 0, 1) := by decide +kernel
theorem dL_refuses_538 : decode cL_refuses 538 = .ok (.bipush 15, 2) := by decide +kernel
theorem dL_refuses_540 : decode cL_refuses 540 = .ok (.iload 6, 2) := by decide +kernel
theorem dL_refuses_542 : decode cL_refuses 542 = .ok (.iconst 0, 1) := by decide +kernel
theorem dL_refuses_543 : decode cL_refuses 543 = .ok (.iconst 0, 1) := by decide +kernel
theorem dL_refuses_544 : decode cL_refuses 544 = .ok (.invokestatic 169, 3) := by decide +kernel
theorem dL_refuses_547 : decode cL_refuses 547 = .ok (.ldc 25, 2) := by decide +kernel
theorem dL_refuses_549 : decode cL_refuses 549 = .ok (.if_icmp .ne 186, 3) := by decide +kernel
theorem dL_refuses_552 : decode cL_refuses 552 = .ok (.aload_n 0, 1) := by decide +kernel
theorem dL_refuses_553 : decode cL_refuses 553 = .ok (.bipush 16, 2) := by decide +kernel
theorem dL_refuses_555 : decode cL_refuses 555 = .ok (.iload 6, 2) := by decide +kernel
theorem dL_refuses_557 : decode cL_refuses 557 = .ok (.iconst 0, 1) := by decide +kernel
theorem dL_refuses_558 : decode cL_refuses 558 = .ok (.iconst 0, 1) := by decide +kernel
theorem dL_refuses_559 : decode cL_refuses 559 = .ok (.invokestatic 169, 3) := by decide +kernel
theorem dL_refuses_562 : decode cL_refuses 562 = .ok (.ldc 25, 2) := by decide +kernel
theorem dL_refuses_564 : decode cL_refuses 564 = .ok (.if_icmp .ne 171, 3) := by decide +kernel
theorem dL_refuses_567 : decode cL_refuses 567 = .ok (.aload_n 0, 1) := by decide +kernel
theorem dL_refuses_568 : decode cL_refuses 568 = .ok (.bipush 16, 2) := by decide +kernel
theorem dL_refuses_570 : decode cL_refuses 570 = .ok (.iconst 5, 1) := by decide +kernel
theorem dL_refuses_571 : decode cL_refuses 571 = .ok (.iconst 2, 1) := by decide +kernel
theorem dL_refuses_572 : decode cL_refuses 572 = .ok (.iload_n 1, 1) := by decide +kernel
theorem dL_refuses_573 : decode cL_refuses 573 = .ok (.bipush 9, 2) := by decide +kernel
theorem dL_refuses_575 : decode cL_refuses 575 = .ok (.irem, 1) := by decide +kernel
theorem dL_refuses_576 : decode cL_refuses 576 = .ok (.iadd, 1) := by decide +kernel
theorem dL_refuses_577 : decode cL_refuses 577 = .ok (.iconst 0, 1) := by decide +kernel
theorem dL_refuses_578 : decode cL_refuses 578 = .ok (.invokestatic 169, 3) := by decide +kernel
theorem dL_refuses_581 : decode cL_refuses 581 = .ok (.ldc 25, 2) := by decide +kernel
theorem dL_refuses_583 : decode cL_refuses 583 = .ok (.if_icmp .ne 152, 3) := by decide +kernel
theorem dL_refuses_586 : decode cL_refuses 586 = .ok (.aload_n 0, 1) := by decide +kernel
theorem dL_refuses_587 : decode cL_refuses 587 = .ok (.bipush 17, 2) := by decide +kernel
theorem dL_refuses_589 : decode cL_refuses 589 = .ok (.iload 6, 2) := by decide +kernel
theorem dL_refuses_591 : decode cL_refuses 591 = .ok (.iconst 0, 1) := by decide +kernel
theorem dL_refuses_592 : decode cL_refuses 592 = .ok (.iconst 0, 1) := by decide +kernel
theorem dL_refuses_593 : decode cL_refuses 593 = .ok (.invokestatic 169, 3) := by decide +kernel
theorem dL_refuses_596 : decode cL_refuses 596 = .ok (.ldc 25, 2) := by decide +kernel
theorem dL_refuses_598 : decode cL_refuses 598 = .ok (.if_icmp .ne 137, 3) := by decide +kernel
theorem dL_refuses_601 : decode cL_refuses 601 = .ok (.aload_n 0, 1) := by decide +kernel
theorem dL_refuses_602 : decode cL_refuses 602 = .ok (.bipush 18, 2) := by decide +kernel
theorem dL_refuses_604 : decode cL_refuses 604 = .ok (.iload 6, 2) := by decide +kernel
theorem dL_refuses_606 : decode cL_refuses 606 = .ok (.iconst 0, 1) := by decide +kernel
theorem dL_refuses_607 : decode cL_refuses 607 = .ok (.iconst 0, 1) := by decide +kernel
theorem dL_refuses_608 : decode cL_refuses 608 = .ok (.invokestatic 169, 3) := by decide +kernel
theorem dL_refuses_611 : decode cL_refuses 611 = .ok (.ldc 25, 2) := by decide +kernel
theorem dL_refuses_613 : decode cL_refuses 613 = .ok (.if_icmp .ne 122, 3) := by decide +kernel
theorem dL_refuses_616 : decode cL_refuses 616 = .ok (.aload_n 0, 1) := by decide +kernel
theorem dL_refuses_617 : decode cL_refuses 617 = .ok (.bipush 18, 2) := by decide +kernel
theorem dL_refuses_619 : decode cL_refuses 619 = .ok (.iconst 5, 1) := by decide +kernel
theorem dL_refuses_620 : decode cL_refuses 620 = .ok (.iconst 2, 1) := by decide +kernel
theorem dL_refuses_621 : decode cL_refuses 621 = .ok (.iload_n 1, 1) := by decide +kernel
theorem dL_refuses_622 : decode cL_refuses 622 = .ok (.bipush 9, 2) := by decide +kernel
theorem dL_refuses_624 : decode cL_refuses 624 = .ok (.irem, 1) := by decide +kernel
theorem dL_refuses_625 : decode cL_refuses 625 = .ok (.iadd, 1) := by decide +kernel
theorem dL_refuses_626 : decode cL_refuses 626 = .ok (.iconst 0, 1) := by decide +kernel
theorem dL_refuses_627 : decode cL_refuses 627 = .ok (.invokestatic 169, 3) := by decide +kernel
theorem dL_refuses_630 : decode cL_refuses 630 = .ok (.ldc 25, 2) := by decide +kernel
theorem dL_refuses_632 : decode cL_refuses 632 = .ok (.if_icmp .ne 103, 3) := by decide +kernel
theorem dL_refuses_635 : decode cL_refuses 635 = .ok (.aload_n 0, 1) := by decide +kernel
theorem dL_refuses_636 : decode cL_refuses 636 = .ok (.iload 6, 2) := by decide +kernel
theorem dL_refuses_638 : decode cL_refuses 638 = .ok (.iload_n 1, 1) := by decide +kernel
theorem dL_refuses_639 : decode cL_refuses 639 = .ok (.i2l, 1) := by decide +kernel
theorem dL_refuses_640 : decode cL_refuses 640 = .ok (.invokestatic 177, 3) := by decide +kernel
theorem dL_refuses_643 : decode cL_refuses 643 = .ok (.ldc 25, 2) := by decide +kernel
theorem dL_refuses_645 : decode cL_refuses 645 = .ok (.if_icmp .ne 90, 3) := by decide +kernel
theorem dL_refuses_648 : decode cL_refuses 648 = .ok (.aload_n 0, 1) := by decide +kernel
theorem dL_refuses_649 : decode cL_refuses 649 = .ok (.bipush 19, 2) := by decide +kernel
theorem dL_refuses_651 : decode cL_refuses 651 = .ok (.iconst 2, 1) := by decide +kernel
theorem dL_refuses_652 : decode cL_refuses 652 = .ok (.iload_n 1, 1) := by decide +kernel
theorem dL_refuses_653 : decode cL_refuses 653 = .ok (.bipush 50, 2) := by decide +kernel
theorem dL_refuses_655 : decode cL_refuses 655 = .ok (.irem, 1) := by decide +kernel
theorem dL_refuses_656 : decode cL_refuses 656 = .ok (.iadd, 1) := by decide +kernel
theorem dL_refuses_657 : decode cL_refuses 657 = .ok (.iconst 0, 1) := by decide +kernel
theorem dL_refuses_658 : decode cL_refuses 658 = .ok (.iconst 0, 1) := by decide +kernel
theorem dL_refuses_659 : decode cL_refuses 659 = .ok (.invokestatic 169, 3) := by decide +kernel
theorem dL_refuses_662 : decode cL_refuses 662 = .ok (.ldc 15, 2) := by decide +kernel
theorem dL_refuses_664 : decode cL_refuses 664 = .ok (.if_icmp .ne 71, 3) := by decide +kernel
theorem dL_refuses_667 : decode cL_refuses 667 = .ok (.aload_n 0, 1) := by decide +kernel
theorem dL_refuses_668 : decode cL_refuses 668 = .ok (.bipush 20, 2) := by decide +kernel
theorem dL_refuses_670 : decode cL_refuses 670 = .ok (.iconst (-1), 1) := by decide +kernel
theorem dL_refuses_671 : decode cL_refuses 671 = .ok (.iload_n 1, 1) := by decide +kernel
theorem dL_refuses_672 : decode cL_refuses 672 = .ok (.bipush 9, 2) := by decide +kernel
theorem dL_refuses_674 : decode cL_refuses 674 = .ok (.irem, 1) := by decide +kernel
theorem dL_refuses_675 : decode cL_refuses 675 = .ok (.isub, 1) := by decide +kernel
theorem dL_refuses_676 : decode cL_refuses 676 = .ok (.iconst 0, 1) := by decide +kernel
theorem dL_refuses_677 : decode cL_refuses 677 = .ok (.iconst 0, 1) := by decide +kernel
theorem dL_refuses_678 : decode cL_refuses 678 = .ok (.invokestatic 169, 3) := by decide +kernel
theorem dL_refuses_681 : decode cL_refuses 681 = .ok (.ldc 15, 2) := by decide +kernel
theorem dL_refuses_683 : decode cL_refuses 683 = .ok (.if_icmp .ne 52, 3) := by decide +kernel
theorem dL_refuses_686 : decode cL_refuses 686 = .ok (.aload_n 0, 1) := by decide +kernel
theorem dL_refuses_687 : decode cL_refuses 687 = .ok (.iconst 0, 1) := by decide +kernel
theorem dL_refuses_688 : decode cL_refuses 688 = .ok (.lconst 0, 1) := by decide +kernel
theorem dL_refuses_689 : decode cL_refuses 689 = .ok (.invokestatic 181, 3) := by decide +kernel
theorem dL_refuses_692 : decode cL_refuses 692 = .ok (.ldc 25, 2) := by decide +kernel
theorem dL_refuses_694 : decode cL_refuses 694 = .ok (.if_icmp .ne 41, 3) := by decide +kernel
theorem dL_refuses_697 : decode cL_refuses 697 = .ok (.aload_n 0, 1) := by decide +kernel
theorem dL_refuses_698 : decode cL_refuses 698 = .ok (.iconst 1, 1) := by decide +kernel
theorem dL_refuses_699 : decode cL_refuses 699 = .ok (.ldc2_w 184, 3) := by decide +kernel
theorem dL_refuses_702 : decode cL_refuses 702 = .ok (.iload_n 1, 1) := by decide +kernel
theorem dL_refuses_703 : decode cL_refuses 703 = .ok (.i2l, 1) := by decide +kernel
theorem dL_refuses_704 : decode cL_refuses 704 = .ok (.ladd, 1) := by decide +kernel
theorem dL_refuses_705 : decode cL_refuses 705 = .ok (.invokestatic 181, 3) := by decide +kernel
theorem dL_refuses_708 : decode cL_refuses 708 = .ok (.ldc 25, 2) := by decide +kernel
theorem dL_refuses_710 : decode cL_refuses 710 = .ok (.if_icmp .ne 25, 3) := by decide +kernel
theorem dL_refuses_713 : decode cL_refuses 713 = .ok (.aload_n 0, 1) := by decide +kernel
theorem dL_refuses_714 : decode cL_refuses 714 = .ok (.iload_n 1, 1) := by decide +kernel
theorem dL_refuses_715 : decode cL_refuses 715 = .ok (.i2l, 1) := by decide +kernel
theorem dL_refuses_716 : decode cL_refuses 716 = .ok (.bipush 61, 2) := by decide +kernel
theorem dL_refuses_718 : decode cL_refuses 718 = .ok (.iload_n 1, 1) := by decide +kernel
theorem dL_refuses_719 : decode cL_refuses 719 = .ok (.bipush 9, 2) := by decide +kernel
theorem dL_refuses_721 : decode cL_refuses 721 = .ok (.irem, 1) := by decide +kernel
theorem dL_refuses_722 : decode cL_refuses 722 = .ok (.iadd, 1) := by decide +kernel
theorem dL_refuses_723 : decode cL_refuses 723 = .ok (.invokestatic 186, 3) := by decide +kernel
theorem dL_refuses_726 : decode cL_refuses 726 = .ok (.ldc 25, 2) := by decide +kernel
theorem dL_refuses_728 : decode cL_refuses 728 = .ok (.if_icmp .ne 7, 3) := by decide +kernel
theorem dL_refuses_731 : decode cL_refuses 731 = .ok (.iconst 1, 1) := by decide +kernel
theorem dL_refuses_732 : decode cL_refuses 732 = .ok (.goto 4, 3) := by decide +kernel
theorem dL_refuses_735 : decode cL_refuses 735 = .ok (.iconst 0, 1) := by decide +kernel
theorem dL_refuses_736 : decode cL_refuses 736 = .ok (.istore 7, 2) := by decide +kernel
theorem dL_refuses_738 : decode cL_refuses 738 = .ok (.aload_n 0, 1) := by decide +kernel
theorem dL_refuses_739 : decode cL_refuses 739 = .ok (.iconst 3, 1) := by decide +kernel
theorem dL_refuses_740 : decode cL_refuses 740 = .ok (.iconst 0, 1) := by decide +kernel
theorem dL_refuses_741 : decode cL_refuses 741 = .ok (.iconst 3, 1) := by decide +kernel
theorem dL_refuses_742 : decode cL_refuses 742 = .ok (.iconst 0, 1) := by decide +kernel
theorem dL_refuses_743 : decode cL_refuses 743 = .ok (.invokestatic 169, 3) := by decide +kernel
theorem dL_refuses_746 : decode cL_refuses 746 = .ok (.istore 8, 2) := by decide +kernel
theorem dL_refuses_748 : decode cL_refuses 748 = .ok (.iload 7, 2) := by decide +kernel
theorem dL_refuses_750 : decode cL_refuses 750 = .ok (.ifCond .eq 105, 3) := by decide +kernel
theorem dL_refuses_753 : decode cL_refuses 753 = .ok (.iload_n 2, 1) := by decide +kernel
theorem dL_refuses_754 : decode cL_refuses 754 = .ok (.bipush 40, 2) := by decide +kernel
theorem dL_refuses_756 : decode cL_refuses 756 = .ok (.if_icmp .lt 17, 3) := by decide +kernel
theorem dL_refuses_759 : decode cL_refuses 759 = .ok (.aload_n 0, 1) := by decide +kernel
theorem dL_refuses_760 : decode cL_refuses 760 = .ok (.bipush 7, 2) := by decide +kernel
theorem dL_refuses_762 : decode cL_refuses 762 = .ok (.iconst 5, 1) := by decide +kernel
theorem dL_refuses_763 : decode cL_refuses 763 = .ok (.iconst 5, 1) := by decide +kernel
theorem dL_refuses_764 : decode cL_refuses 764 = .ok (.iconst 0, 1) := by decide +kernel
theorem dL_refuses_765 : decode cL_refuses 765 = .ok (.invokestatic 169, 3) := by decide +kernel
theorem dL_refuses_768 : decode cL_refuses 768 = .ok (.ldc 18, 2) := by decide +kernel
theorem dL_refuses_770 : decode cL_refuses 770 = .ok (.if_icmp .ne 85, 3) := by decide +kernel
theorem dL_refuses_773 : decode cL_refuses 773 = .ok (.iload 8, 2) := by decide +kernel
theorem dL_refuses_775 : decode cL_refuses 775 = .ok (.iconst (-1), 1) := by decide +kernel
theorem dL_refuses_776 : decode cL_refuses 776 = .ok (.if_icmp .ne 48, 3) := by decide +kernel
theorem dL_refuses_779 : decode cL_refuses 779 = .ok (.aload_n 0, 1) := by decide +kernel
theorem dL_refuses_780 : decode cL_refuses 780 = .ok (.bipush 8, 2) := by decide +kernel
theorem dL_refuses_782 : decode cL_refuses 782 = .ok (.iconst 0, 1) := by decide +kernel
theorem dL_refuses_783 : decode cL_refuses 783 = .ok (.iconst 0, 1) := by decide +kernel
theorem dL_refuses_784 : decode cL_refuses 784 = .ok (.iconst 0, 1) := by decide +kernel
theorem dL_refuses_785 : decode cL_refuses 785 = .ok (.invokestatic 169, 3) := by decide +kernel
theorem dL_refuses_788 : decode cL_refuses 788 = .ok (.ldc 18, 2) := by decide +kernel
theorem dL_refuses_790 : decode cL_refuses 790 = .ok (.if_icmp .ne 65, 3) := by decide +kernel
theorem dL_refuses_793 : decode cL_refuses 793 = .ok (.aload_n 0, 1) := by decide +kernel
theorem dL_refuses_794 : decode cL_refuses 794 = .ok (.bipush 9, 2) := by decide +kernel
theorem dL_refuses_796 : decode cL_refuses 796 = .ok (.iconst 0, 1) := by decide +kernel
theorem dL_refuses_797 : decode cL_refuses 797 = .ok (.iconst 0, 1) := by decide +kernel
theorem dL_refuses_798 : decode cL_refuses 798 = .ok (.iconst 0, 1) := by decide +kernel
theorem dL_refuses_799 : decode cL_refuses 799 = .ok (.invokestatic 169, 3) := by decide +kernel
theorem dL_refuses_802 : decode cL_refuses 802 = .ok (.ldc 18, 2) := by decide +kernel
theorem dL_refuses_804 : decode cL_refuses 804 = .ok (.if_icmp .ne 51, 3) := by decide +kernel
theorem dL_refuses_807 : decode cL_refuses 807 = .ok (.aload_n 0, 1) := by decide +kernel
theorem dL_refuses_808 : decode cL_refuses 808 = .ok (.bipush 10, 2) := by decide +kernel
theorem dL_refuses_810 : decode cL_refuses 810 = .ok (.iconst 0, 1) := by decide +kernel
theorem dL_refuses_811 : decode cL_refuses 811 = .ok (.iconst 0, 1) := by decide +kernel
theorem dL_refuses_812 : decode cL_refuses 812 = .ok (.iconst 0, 1) := by decide +kernel
theorem dL_refuses_813 : decode cL_refuses 813 = .ok (.invokestatic 169, 3) := by decide +kernel
theorem dL_refuses_816 : decode cL_refuses 816 = .ok (.ldc 18, 2) := by decide +kernel
theorem dL_refuses_818 : decode cL_refuses 818 = .ok (.if_icmp .ne 37, 3) := by decide +kernel
theorem dL_refuses_821 : decode cL_refuses 821 = .ok (.goto 30, 3) := by decide +kernel
theorem dL_refuses_824 : decode cL_refuses 824 = .ok (.aload_n 0, 1) := by decide +kernel
theorem dL_refuses_825 : decode cL_refuses 825 = .ok (.iload 8, 2) := by decide +kernel
theorem dL_refuses_827 : decode cL_refuses 827 = .ok (.iconst 1, 1) := by decide +kernel
theorem dL_refuses_828 : decode cL_refuses 828 = .ok (.invokestatic 173, 3) := by decide +kernel
theorem dL_refuses_831 : decode cL_refuses 831 = .ok (.ldc 18, 2) := by decide +kernel
theorem dL_refuses_833 : decode cL_refuses 833 = .ok (.if_icmp .ne 22, 3) := by decide +kernel
theorem dL_refuses_836 : decode cL_refuses 836 = .ok (.aload_n 0, 1) := by decide +kernel
theorem dL_refuses_837 : decode cL_refuses 837 = .ok (.bipush 10, 2) := by decide +kernel
theorem dL_refuses_839 : decode cL_refuses 839 = .ok (.iconst 0, 1) := by decide +kernel
theorem dL_refuses_840 : decode cL_refuses 840 = .ok (.bipush 79, 2) := by decide +kernel
theorem dL_refuses_842 : decode cL_refuses 842 = .ok (.iconst 0, 1) := by decide +kernel
theorem dL_refuses_843 : decode cL_refuses 843 = .ok (.invokestatic 169, 3) := by decide +kernel
theorem dL_refuses_846 : decode cL_refuses 846 = .ok (.ldc 18, 2) := by decide +kernel
theorem dL_refuses_848 : decode cL_refuses 848 = .ok (.if_icmp .ne 7, 3) := by decide +kernel
theorem dL_refuses_851 : decode cL_refuses 851 = .ok (.iconst 1, 1) := by decide +kernel
theorem dL_refuses_852 : decode cL_refuses 852 = .ok (.goto 4, 3) := by decide +kernel
theorem dL_refuses_855 : decode cL_refuses 855 = .ok (.iconst 0, 1) := by decide +kernel
theorem dL_refuses_856 : decode cL_refuses 856 = .ok (.ireturn, 1) := by decide +kernel
set_option maxRecDepth 20000 in
theorem ggL_holds_L_call : GoodIn wsL_holds wsL_call := goodIn_ca (goodIn_ca (goodIn_ca (goodIn_r _ [4, 5, 6, 3, 7, 8, 9, 10, 11, 12, 13, 14, 15, 16, 17, 18, 19, 20, 21, 22, 23, 24, 25, 26, 27, 28, 29, 30, 31, 32, 33, 34, 35, 36, 37, 38, 39, 40, 41, 42, 43, 44, 45, 46, 47, 48, 49, 50, 51, 52, 53, 54, 55, 56, 57, 58, 59, 60, 61, 62, 63, 64, 65, 66, 67, 68, 69, 70, 71, 72, 73, 74, 75, 76, 77, 78, 79, 80, 81, 82, 83, 84, 85, 86, 87, 88, 89, 90, 91, 92, 93, 94, 95, 96, 97, 98, 99, 100, 101, 102, 103, 104, 105, 106, 107, 108, 109, 110, 111, 112, 113, 114, 115, 116, 117, 118, 119, 120, 121, 122, 123, 124, 125, 126, 127, 128, 129, 130, 131, 132, 133, 134, 135, 136, 137, 138, 139, 140, 141, 142, 143, 144, 145, 146, 147, 148, 149, 150, 151, 152, 153, 154, 155, 156, 157, 158, 159, 160, 161, 162, 163, 164, 165, 166, 167, 168, 169, 170, 171, 172, 173, 174, 175, 176, 177, 178, 179, 180, 181, 182, 183, 184, 185, 186, 187, 188, 189, 190, 191, 192, 193, 194, 195, 196, 197, 198, 199, 200, 201, 202, 203, 204, 205, 206, 207, 208, 209, 210, 211, 212, 213, 214, 215, 216, 217, 218, 219, 220, 221, 222, 223, 224, 225, 226, 227, 228, 229, 230, 231, 232, 233, 234, 235, 236, 237, 238, 239, 240, 241, 242, 243, 244, 245, 246, 247, 248, 249, 250, 251, 252, 253, 254, 255, 256, 257, 258, 259, 260, 261, 262, 263, 264, 265, 266, 267, 268, 269, 270, 271, 272, 273, 274, 275, 276, 277, 278, 279, 280, 281, 282, 283, 284, 285, 286, 287, 288, 289, 290, 291, 292, 293, 294, 295, 296, 297, 298, 299, 300, 301, 302, 303, 304, 305, 306, 307, 308, 309, 310, 311, 312, 313, 314, 315, 316, 317, 318, 319, 320, 321, 322, 323, 324, 325, 326, 327, 328, 329, 330, 331, 332, 333, 334, 335, 336, 337, 338, 339, 340, 341, 342, 343, 344, 345, 346, 347, 348, 349, 350, 351, 352, 353, 354, 355, 356, 357, 358, 359, 360, 361, 362, 363, 364, 365, 366, 367, 368, 369, 370, 371, 372, 373, 374, 375, 376, 377, 378, 379, 380, 381, 382, 383, 384, 385, 386, 387, 388, 389, 390, 391, 392, 393, 394, 395, 396, 397, 398, 399, 400, 401, 402, 403, 404, 405, 406, 407, 408, 409, 410, 411, 412, 413, 414, 415, 416, 417, 418, 419, 420, 421, 422, 423, 424, 425, 426, 427, 428, 429, 430, 431, 432, 433, 434, 435, 436, 437, 438, 439, 440, 441, 442, 443, 444, 445, 446, 447, 448, 449, 450, 451, 452, 453, 454, 455, 456, 457, 458, 459, 460, 461, 462, 463, 464, 465, 466, 467, 468, 469, 470, 471, 472, 473, 474, 475, 476, 477, 478, 479, 480, 481, 482, 483, 484, 485, 486, 487, 488, 489, 490, 491, 492, 493, 494, 495, 496, 497, 498, 499, 500, 501, 502] rfl (by decide +kernel)) (goodIn_sub (fun _ h => List.mem_cons_of_mem _ (List.mem_append_left _ (List.mem_append_left _ (List.mem_append_right _ h)))) (by decide +kernel))) (goodIn_sub (fun _ h => List.mem_cons_of_mem _ (List.mem_append_left _ (List.mem_append_right _ h))) (by decide +kernel))) (goodIn_sub (fun _ h => List.mem_cons_of_mem _ (List.mem_append_right _ h)) (by decide +kernel))
set_option maxRecDepth 20000 in
theorem gL_holds_L_call : GoodIn wsL_holds (va_wsS RL 169 yL_call wsL_call) := goodIn_app (goodIn_r _ [1, 2, 3] rfl (by decide +kernel)) ggL_holds_L_call
theorem dL_holds_0 : decode cL_holds 0 = .ok (.aload_n 0, 1) := by decide +kernel
theorem dL_holds_1 : decode cL_holds 1 = .ok (.iconst 2, 1) := by decide +kernel
theorem dL_holds_2 : decode cL_holds 2 = .ok (.iconst 0, 1) := by decide +kernel
theorem dL_holds_3 : decode cL_holds 3 = .ok (.iconst 0, 1) := by decide +kernel
theorem dL_holds_4 : decode cL_holds 4 = .ok (.iconst 0, 1) := by decide +kernel
theorem dL_holds_5 : decode cL_holds 5 = .ok (.invokestatic 169, 3) := by decide +kernel
theorem dL_holds_8 : decode cL_holds 8 = .ok (.istore_n 1, 1) := by decide +kernel
theorem dL_holds_9 : decode cL_holds 9 = .ok (.aload_n 0, 1) := by decide +kernel
theorem dL_holds_10 : decode cL_holds 10 = .ok (.iconst 2, 1) := by decide +kernel
theorem dL_holds_11 : decode cL_holds 11 = .ok (.bipush 7, 2) := by decide +kernel
theorem dL_holds_13 : decode cL_holds 13 = .ok (.iconst 0, 1) := by decide +kernel
theorem dL_holds_14 : decode cL_holds 14 = .ok (.iconst 0, 1) := by decide +kernel
theorem dL_holds_15 : decode cL_holds 15 = .ok (.invokestatic 169, 3) := by decide +kernel
theorem dL_holds_18 : decode cL_holds 18 = .ok (.istore_n 2, 1) := by decide +kernel
theorem dL_holds_19 : decode cL_holds 19 = .ok (.aload_n 0, 1) := by decide +kernel
theorem dL_holds_20 : decode cL_holds 20 = .ok (.bipush 6, 2) := by decide +kernel
theorem dL_holds_22 : decode cL_holds 22 = .ok (.iconst 1, 1) := by decide +kernel
theorem dL_holds_23 : decode cL_holds 23 = .ok (.iconst 0, 1) := by decide +kernel
theorem dL_holds_24 : decode cL_holds 24 = .ok (.iconst 0, 1) := by decide +kernel
theorem dL_holds_25 : decode cL_holds 25 = .ok (.invokestatic 169, 3) := by decide +kernel
theorem dL_holds_28 : decode cL_holds 28 = .ok (.istore_n 3, 1) := by decide +kernel
theorem dL_holds_29 : decode cL_holds 29 = .ok (.iconst 0, 1) := by decide +kernel
theorem dL_holds_30 : decode cL_holds 30 = .ok (.istore 4, 2) := by decide +kernel
theorem dL_holds_32 : decode cL_holds 32 = .ok (.iconst 0, 1) := by decide +kernel
theorem dL_holds_33 : decode cL_holds 33 = .ok (.istore 5, 2) := by decide +kernel
theorem dL_holds_35 : decode cL_holds 35 = .ok (.iconst 0, 1) := by decide +kernel
theorem dL_holds_36 : decode cL_holds 36 = .ok (.istore 6, 2) := by decide +kernel
theorem dL_holds_38 : decode cL_holds 38 = .ok (.aload_n 0, 1) := by decide +kernel
theorem dL_holds_39 : decode cL_holds 39 = .ok (.bipush 6, 2) := by decide +kernel
theorem dL_holds_41 : decode cL_holds 41 = .ok (.iconst 2, 1) := by decide +kernel
theorem dL_holds_42 : decode cL_holds 42 = .ok (.iconst 0, 1) := by decide +kernel
theorem dL_holds_43 : decode cL_holds 43 = .ok (.iconst 0, 1) := by decide +kernel
theorem dL_holds_44 : decode cL_holds 44 = .ok (.invokestatic 169, 3) := by decide +kernel
theorem dL_holds_47 : decode cL_holds 47 = .ok (.istore 7, 2) := by decide +kernel
theorem dL_holds_49 : decode cL_holds 49 = .ok (.iload_n 1, 1) := by decide +kernel
theorem dL_holds_50 : decode cL_holds 50 = .ok (.bipush 40, 2) := by decide +kernel
theorem dL_holds_52 : decode cL_holds 52 = .ok (.if_icmp .gt 55, 3) := by decide +kernel
theorem dL_holds_55 : decode cL_holds 55 = .ok (.aload_n 0, 1) := by decide +kernel
theorem dL_holds_56 : decode cL_holds 56 = .ok (.iconst 2, 1) := by decide +kernel
theorem dL_holds_57 : decode cL_holds 57 = .ok (.iconst 1, 1) := by decide +kernel
theorem dL_holds_58 : decode cL_holds 58 = .ok (.iconst 0, 1) := by decide +kernel
theorem dL_holds_59 : decode cL_holds 59 = .ok (.iconst 0, 1) := by decide +kernel
theorem dL_holds_60 : decode cL_holds 60 = .ok (.invokestatic 169, 3) := by decide +kernel
theorem dL_holds_63 : decode cL_holds 63 = .ok (.aload_n 0, 1) := by decide +kernel
theorem dL_holds_64 : decode cL_holds 64 = .ok (.iconst 2, 1) := by decide +kernel
theorem dL_holds_65 : decode cL_holds 65 = .ok (.iconst 2, 1) := by decide +kernel
theorem dL_holds_66 : decode cL_holds 66 = .ok (.iconst 0, 1) := by decide +kernel
theorem dL_holds_67 : decode cL_holds 67 = .ok (.iconst 0, 1) := by decide +kernel
theorem dL_holds_68 : decode cL_holds 68 = .ok (.invokestatic 169, 3) := by decide +kernel
theorem dL_holds_71 : decode cL_holds 71 = .ok (.iadd, 1) := by decide +kernel
theorem dL_holds_72 : decode cL_holds 72 = .ok (.aload_n 0, 1) := by decide +kernel
theorem dL_holds_73 : decode cL_holds 73 = .ok (.iconst 2, 1) := by decide +kernel
theorem dL_holds_74 : decode cL_holds 74 = .ok (.iconst 3, 1) := by decide +kernel
theorem dL_holds_75 : decode cL_holds 75 = .ok (.iconst 0, 1) := by decide +kernel
theorem dL_holds_76 : decode cL_holds 76 = .ok (.iconst 0, 1) := by decide +kernel
theorem dL_holds_77 : decode cL_holds 77 = .ok (.invokestatic 169, 3) := by decide +kernel
theorem dL_holds_80 : decode cL_holds 80 = .ok (.iadd, 1) := by decide +kernel
theorem dL_holds_81 : decode cL_holds 81 = .ok (.aload_n 0, 1) := by decide +kernel
theorem dL_holds_82 : decode cL_holds 82 = .ok (.iconst 2, 1) := by decide +kernel
theorem dL_holds_83 : decode cL_holds 83 = .ok (.iconst 4, 1) := by decide +kernel
theorem dL_holds_84 : decode cL_holds 84 = .ok (.iconst 0, 1) := by decide +kernel
theorem dL_holds_85 : decode cL_holds 85 = .ok (.iconst 0, 1) := by decide +kernel
theorem dL_holds_86 : decode cL_holds 86 = .ok (.invokestatic 169, 3) := by decide +kernel
theorem dL_holds_89 : decode cL_holds 89 = .ok (.iadd, 1) := by decide +kernel
theorem dL_holds_90 : decode cL_holds 90 = .ok (.aload_n 0, 1) := by decide +kernel
theorem dL_holds_91 : decode cL_holds 91 = .ok (.iconst 2, 1) := by decide +kernel
theorem dL_holds_92 : decode cL_holds 92 = .ok (.iconst 5, 1) := by decide +kernel
theorem dL_holds_93 : decode cL_holds 93 = .ok (.iconst 0, 1) := by decide +kernel
theorem dL_holds_94 : decode cL_holds 94 = .ok (.iconst 0, 1) := by decide +kernel
theorem dL_holds_95 : decode cL_holds 95 = .ok (.invokestatic 169, 3) := by decide +kernel
theorem dL_holds_98 : decode cL_holds 98 = .ok (.iadd, 1) := by decide +kernel
theorem dL_holds_99 : decode cL_holds 99 = .ok (.iload_n 1, 1) := by decide +kernel
theorem dL_holds_100 : decode cL_holds 100 = .ok (.if_icmp .ne 7, 3) := by decide +kernel
theorem dL_holds_103 : decode cL_holds 103 = .ok (.iconst 1, 1) := by decide +kernel
theorem dL_holds_104 : decode cL_holds 104 = .ok (.goto 4, 3) := by decide +kernel
theorem dL_holds_107 : decode cL_holds 107 = .ok (.iconst 0, 1) := by decide +kernel
theorem dL_holds_108 : decode cL_holds 108 = .ok (.istore 8, 2) := by decide +kernel
theorem dL_holds_110 : decode cL_holds 110 = .ok (.iconst 0, 1) := by decide +kernel
theorem dL_holds_111 : decode cL_holds 111 = .ok (.istore 9, 2) := by decide +kernel
theorem dL_holds_113 : decode cL_holds 113 = .ok (.iload 9, 2) := by decide +kernel
theorem dL_holds_115 : decode cL_holds 115 = .ok (.iload_n 1, 1) := by decide +kernel
theorem dL_holds_116 : decode cL_holds 116 = .ok (.if_icmp .ge 288, 3) := by decide +kernel
theorem dL_holds_119 : decode cL_holds 119 = .ok (.iload 8, 2) := by decide +kernel
theorem dL_holds_121 : decode cL_holds 121 = .ok (.ifCond .eq 283, 3) := by decide +kernel
theorem dL_holds_124 : decode cL_holds 124 = .ok (.aload_n 0, 1) := by decide +kernel
theorem dL_holds_125 : decode cL_holds 125 = .ok (.iconst 3, 1) := by decide +kernel
theorem dL_holds_126 : decode cL_holds 126 = .ok (.iload 9, 2) := by decide +kernel
theorem dL_holds_128 : decode cL_holds 128 = .ok (.iconst 2, 1) := by decide +kernel
theorem dL_holds_129 : decode cL_holds 129 = .ok (.iconst 0, 1) := by decide +kernel
theorem dL_holds_130 : decode cL_holds 130 = .ok (.invokestatic 169, 3) := by decide +kernel
theorem dL_holds_133 : decode cL_holds 133 = .ok (.istore 10, 2) := by decide +kernel
theorem dL_holds_135 : decode cL_holds 135 = .ok (.aload_n 0, 1) := by decide +kernel
theorem dL_holds_136 : decode cL_holds 136 = .ok (.iconst 3, 1) := by decide +kernel
theorem dL_holds_137 : decode cL_holds 137 = .ok (.iload 9, 2) := by decide +kernel
theorem dL_holds_139 : decode cL_holds 139 = .ok (.iconst 3, 1) := by decide +kernel
theorem dL_holds_140 : decode cL_holds 140 = .ok (.iconst 0, 1) := by decide +kernel
theorem dL_holds_141 : decode cL_holds 141 = .ok (.invokestatic 169, 3) := by decide +kernel
theorem dL_holds_144 : decode cL_holds 144 = .ok (.istore 11, 2) := by decide +kernel
theorem dL_holds_146 : decode cL_holds 146 = .ok (.aload_n 0, 1) := by decide +kernel
theorem dL_holds_147 : decode cL_holds 147 = .ok (.iconst 3, 1) := by decide +kernel
theorem dL_holds_148 : decode cL_holds 148 = .ok (.iload 9, 2) := by decide +kernel
theorem dL_holds_150 : decode cL_holds 150 = .ok (.iconst 0, 1) := by decide +kernel
theorem dL_holds_151 : decode cL_holds 151 = .ok (.iconst 0, 1) := by decide +kernel
theorem dL_holds_152 : decode cL_holds 152 = .ok (.invokestatic 169, 3) := by decide +kernel
theorem dL_holds_155 : decode cL_holds 155 = .ok (.istore 12, 2) := by decide +kernel
theorem dL_holds_157 : decode cL_holds 157 = .ok (.aload_n 0, 1) := by decide +kernel
theorem dL_holds_158 : decode cL_holds 158 = .ok (.iconst 3, 1) := by decide +kernel
theorem dL_holds_159 : decode cL_holds 159 = .ok (.iload 9, 2) := by decide +kernel
theorem dL_holds_161 : decode cL_holds 161 = .ok (.iconst 4, 1) := by decide +kernel
theorem dL_holds_162 : decode cL_holds 162 = .ok (.iconst 0, 1) := by decide +kernel
theorem dL_holds_163 : decode cL_holds 163 = .ok (.invokestatic 169, 3) := by decide +kernel
theorem dL_holds_166 : decode cL_holds 166 = .ok (.istore 13, 2) := by decide +kernel
theorem dL_holds_168 : decode cL_holds 168 = .ok (.aload_n 0, 1) := by decide +kernel
theorem dL_holds_169 : decode cL_holds 169 = .ok (.iconst 3, 1) := by decide +kernel
theorem dL_holds_170 : decode cL_holds 170 = .ok (.iload 9, 2) := by decide +kernel
theorem dL_holds_172 : decode cL_holds 172 = .ok (.bipush 6, 2) := by decide +kernel
theorem dL_holds_174 : decode cL_holds 174 = .ok (.iconst 0, 1) := by decide +kernel
theorem dL_holds_175 : decode cL_holds 175 = .ok (.invokestatic 169, 3) := by decide +kernel
theorem dL_holds_178 : decode cL_holds 178 = .ok (.istore 14, 2) := by decide +kernel
theorem dL_holds_180 : decode cL_holds 180 = .ok (.iload 6, 2) := by decide +kernel
theorem dL_holds_182 : decode cL_holds 182 = .ok (.iload 13, 2) := by decide +kernel
theorem dL_holds_184 : decode cL_holds 184 = .ok (.iadd, 1) := by decide +kernel
theorem dL_holds_185 : decode cL_holds 185 = .ok (.istore 6, 2) := by decide +kernel
theorem dL_holds_187 : decode cL_holds 187 = .ok (.iload 10, 2) := by decide +kernel
theorem dL_holds_189 : decode cL_holds 189 = .ok (.ifCond .lt 145, 3) := by decide +kernel
theorem dL_holds_192 : decode cL_holds 192 = .ok (.iload 10, 2) := by decide +kernel
theorem dL_holds_194 : decode cL_holds 194 = .ok (.iconst 5, 1) := by decide +kernel
theorem dL_holds_195 : decode cL_holds 195 = .ok (.if_icmp .ge 139, 3) := by decide +kernel
theorem dL_holds_198 : decode cL_holds 198 = .ok (.iload 11, 2) := by decide +kernel
theorem dL_holds_200 : decode cL_holds 200 = .ok (.iconst (-1), 1) := by decide +kernel
theorem dL_holds_201 : decode cL_holds 201 = .ok (.if_icmp .ne 7, 3) := by decide +kernel
theorem dL_holds_204 : decode cL_holds 204 = .ok (.iconst 1, 1) := by decide +kernel
theorem dL_holds_205 : decode cL_holds 205 = .ok (.goto 4, 3) := by decide +kernel
theorem dL_holds_208 : decode cL_holds 208 = .ok (.iconst 0, 1) := by decide +kernel
theorem dL_holds_209 : decode cL_holds 209 = .ok (.iload 10, 2) := by decide +kernel
theorem dL_holds_211 : decode cL_holds 211 = .ok (.ifCond .eq 7, 3) := by decide +kernel
theorem dL_holds_214 : decode cL_holds 214 = .ok (.iconst 1, 1) := by decide +kernel
theorem dL_holds_215 : decode cL_holds 215 = .ok (.goto 4, 3) := by decide +kernel
theorem dL_holds_218 : decode cL_holds 218 = .ok (.iconst 0, 1) := by decide +kernel
theorem dL_holds_219 : decode cL_holds 219 = .ok (.if_icmp .ne 115, 3) := by decide +kernel
theorem dL_holds_222 : decode cL_holds 222 = .ok (.iload 14, 2) := by decide +kernel
theorem dL_holds_224 : decode cL_holds 224 = .ok (.iconst (-1), 1) := by decide +kernel
theorem dL_holds_225 : decode cL_holds 225 = .ok (.if_icmp .ne 7, 3) := by decide +kernel
theorem dL_holds_228 : decode cL_holds 228 = .ok (.iconst 1, 1) := by decide +kernel
theorem dL_holds_229 : decode cL_holds 229 = .ok (.goto 4, 3) := by decide +kernel
theorem dL_holds_232 : decode cL_holds 232 = .ok (.iconst 0, 1) := by decide +kernel
theorem dL_holds_233 : decode cL_holds 233 = .ok (.iload 10, 2) := by decide +kernel
theorem dL_holds_235 : decode cL_holds 235 = .ok (.ifCond .eq 7, 3) := by decide +kernel
theorem dL_holds_238 : decode cL_holds 238 = .ok (.iconst 1, 1) := by decide +kernel
theorem dL_holds_239 : decode cL_holds 239 = .ok (.goto 4, 3) := by decide +kernel
theorem dL_holds_242 : decode cL_holds 242 = .ok (.iconst 0, 1) := by decide +kernel
theorem dL_holds_243 : decode cL_holds 243 = .ok (.if_icmp .ne 91, 3) := by decide +kernel
theorem dL_holds_246 : decode cL_holds 246 = .ok (.iload 13, 2) := by decide +kernel
theorem dL_holds_248 : decode cL_holds 248 = .ok (.aload_n 0, 1) := by decide +kernel
theorem dL_holds_249 : decode cL_holds 249 = .ok (.iconst 3, 1) := by decide +kernel
theorem dL_holds_250 : decode cL_holds 250 = .ok (.iload 9, 2) := by decide +kernel
theorem dL_holds_252 : decode cL_holds 252 = .ok (.iconst 1, 1) := by decide +kernel
theorem dL_holds_253 : decode cL_holds 253 = .ok (.iconst 0, 1) := by decide +kernel
theorem dL_holds_254 : decode cL_holds 254 = .ok (.invokestatic 169, 3) := by decide +kernel
theorem dL_holds_257 : decode cL_holds 257 = .ok (.if_icmp .gt 77, 3) := by decide +kernel
theorem dL_holds_260 : decode cL_holds 260 = .ok (.iload 10, 2) := by decide +kernel
theorem dL_holds_262 : decode cL_holds 262 = .ok (.ifCond .ne 25, 3) := by decide +kernel
theorem dL_holds_265 : decode cL_holds 265 = .ok (.iload 14, 2) := by decide +kernel
theorem dL_holds_267 : decode cL_holds 267 = .ok (.ifCond .le 67, 3) := by decide +kernel
theorem dL_holds_270 : decode cL_holds 270 = .ok (.iload 13, 2) := by decide +kernel
theorem dL_holds_272 : decode cL_holds 272 = .ok (.iload 14, 2) := by decide +kernel
theorem dL_holds_274 : decode cL_holds 274 = .ok (.iadd, 1) := by decide +kernel
theorem dL_holds_275 : decode cL_holds 275 = .ok (.aload_n 0, 1) := by decide +kernel
theorem dL_holds_276 : decode cL_holds 276 = .ok (.iconst 3, 1) := by decide +kernel
theorem dL_holds_277 : decode cL_holds 277 = .ok (.iload 9, 2) := by decide +kernel
theorem dL_holds_279 : decode cL_holds 279 = .ok (.iconst 1, 1) := by decide +kernel
theorem dL_holds_280 : decode cL_holds 280 = .ok (.iconst 0, 1) := by decide +kernel
theorem dL_holds_281 : decode cL_holds 281 = .ok (.invokestatic 169, 3) := by decide +kernel
theorem dL_holds_284 : decode cL_holds 284 = .ok (.if_icmp .ne 50, 3) := by decide +kernel
theorem dL_holds_287 : decode cL_holds 287 = .ok (.iload 10, 2) := by decide +kernel
theorem dL_holds_289 : decode cL_holds 289 = .ok (.iconst 2, 1) := by decide +kernel
theorem dL_holds_290 : decode cL_holds 290 = .ok (.if_icmp .ne 17, 3) := by decide +kernel
theorem dL_holds_293 : decode cL_holds 293 = .ok (.iload 13, 2) := by decide +kernel
theorem dL_holds_295 : decode cL_holds 295 = .ok (.aload_n 0, 1) := by decide +kernel
theorem dL_holds_296 : decode cL_holds 296 = .ok (.iconst 3, 1) := by decide +kernel
theorem dL_holds_297 : decode cL_holds 297 = .ok (.iload 9, 2) := by decide +kernel
theorem dL_holds_299 : decode cL_holds 299 = .ok (.iconst 1, 1) := by decide +kernel
theorem dL_holds_300 : decode cL_holds 300 = .ok (.iconst 0, 1) := by decide +kernel
theorem dL_holds_301 : decode cL_holds 301 = .ok (.invokestatic 169, 3) := by decide +kernel
theorem dL_holds_304 : decode cL_holds 304 = .ok (.if_icmp .gt 30, 3) := by decide +kernel
theorem dL_holds_307 : decode cL_holds 307 = .ok (.iload 10, 2) := by decide +kernel
theorem dL_holds_309 : decode cL_holds 309 = .ok (.iconst 3, 1) := by decide +kernel
theorem dL_holds_310 : decode cL_holds 310 = .ok (.if_icmp .ne 20, 3) := by decide +kernel
theorem dL_holds_313 : decode cL_holds 313 = .ok (.aload_n 0, 1) := by decide +kernel
theorem dL_holds_314 : decode cL_holds 314 = .ok (.iconst 3, 1) := by decide +kernel
theorem dL_holds_315 : decode cL_holds 315 = .ok (.iload 9, 2) := by decide +kernel
theorem dL_holds_317 : decode cL_holds 317 = .ok (.iconst 5, 1) := by decide +kernel
theorem dL_holds_318 : decode cL_holds 318 = .ok (.iconst 0, 1) := by decide +kernel
theorem dL_holds_319 : decode cL_holds 319 = .ok (.invokestatic 169, 3) := by decide +kernel
theorem dL_holds_322 : decode cL_holds 322 = .ok (.ifCond .le 12, 3) := by decide +kernel
theorem dL_holds_325 : decode cL_holds 325 = .ok (.iload 13, 2) := by decide +kernel
theorem dL_holds_327 : decode cL_holds 327 = .ok (.ifCond .ne 7, 3) := by decide +kernel
theorem dL_holds_330 : decode cL_holds 330 = .ok (.iconst 1, 1) := by decide +kernel
theorem dL_holds_331 : decode cL_holds 331 = .ok (.goto 4, 3) := by decide +kernel
theorem dL_holds_334 : decode cL_holds 334 = .ok (.iconst 0, 1) := by decide +kernel
theorem dL_holds_335 : decode cL_holds 335 = .ok (.istore 8, 2) := by decide +kernel
theorem dL_holds_337 : decode cL_holds 337 = .ok (.iload 10, 2) := by decide +kernel
theorem dL_holds_339 : decode cL_holds 339 = .ok (.ifCond .ne 59, 3) := by decide +kernel
theorem dL_holds_342 : decode cL_holds 342 = .ok (.iinc 5 1, 3) := by decide +kernel
theorem dL_holds_345 : decode cL_holds 345 = .ok (.iload 4, 2) := by decide +kernel
theorem dL_holds_347 : decode cL_holds 347 = .ok (.iload 12, 2) := by decide +kernel
theorem dL_holds_349 : decode cL_holds 349 = .ok (.iadd, 1) := by decide +kernel
theorem dL_holds_350 : decode cL_holds 350 = .ok (.istore 4, 2) := by decide +kernel
theorem dL_holds_352 : decode cL_holds 352 = .ok (.iload 11, 2) := by decide +kernel
theorem dL_holds_354 : decode cL_holds 354 = .ok (.istore 15, 2) := by decide +kernel
theorem dL_holds_356 : decode cL_holds 356 = .ok (.iload 15, 2) := by decide +kernel
theorem dL_holds_358 : decode cL_holds 358 = .ok (.iload 11, 2) := by decide +kernel
theorem dL_holds_360 : decode cL_holds 360 = .ok (.iload 12, 2) := by decide +kernel
theorem dL_holds_362 : decode cL_holds 362 = .ok (.iadd, 1) := by decide +kernel
theorem dL_holds_363 : decode cL_holds 363 = .ok (.if_icmp .ge 35, 3) := by decide +kernel
theorem dL_holds_366 : decode cL_holds 366 = .ok (.iload 8, 2) := by decide +kernel
theorem dL_holds_368 : decode cL_holds 368 = .ok (.ifCond .eq 30, 3) := by decide +kernel
theorem dL_holds_371 : decode cL_holds 371 = .ok (.aload_n 0, 1) := by decide +kernel
theorem dL_holds_372 : decode cL_holds 372 = .ok (.iconst 4, 1) := by decide +kernel
theorem dL_holds_373 : decode cL_holds 373 = .ok (.iload 15, 2) := by decide +kernel
theorem dL_holds_375 : decode cL_holds 375 = .ok (.iconst 0, 1) := by decide +kernel
theorem dL_holds_376 : decode cL_holds 376 = .ok (.iconst 0, 1) := by decide +kernel
theorem dL_holds_377 : decode cL_holds 377 = .ok (.invokestatic 169, 3) := by decide +kernel
theorem dL_holds_380 : decode cL_holds 380 = .ok (.iload 9, 2) := by decide +kernel
theorem dL_holds_382 : decode cL_holds 382 = .ok (.if_icmp .ne 7, 3) := by decide +kernel
theorem dL_holds_385 : decode cL_holds 385 = .ok (.iconst 1, 1) := by decide +kernel
theorem dL_holds_386 : decode cL_holds 386 = .ok (.goto 4, 3) := by decide +kernel
theorem dL_holds_389 : decode cL_holds 389 = .ok (.iconst 0, 1) := by decide +kernel
theorem dL_holds_390 : decode cL_holds 390 = .ok (.istore 8, 2) := by decide +kernel
theorem dL_holds_392 : decode cL_holds 392 = .ok (.iinc 15 1, 3) := by decide +kernel
theorem dL_holds_395 : decode cL_holds 395 = .ok (.goto (-39), 3) := by decide +kernel
theorem dL_holds_398 : decode cL_holds 398 = .ok (.iinc 9 1, 3) := by decide +kernel
theorem dL_holds_401 : decode cL_holds 401 = .ok (.goto (-288), 3) := by decide +kernel
theorem dL_holds_404 : decode cL_holds 404 = .ok (.iconst 0, 1) := by decide +kernel
theorem dL_holds_405 : decode cL_holds 405 = .ok (.istore 9, 2) := by decide +kernel
theorem dL_holds_407 : decode cL_holds 407 = .ok (.iconst 0, 1) := by decide +kernel
theorem dL_holds_408 : decode cL_holds 408 = .ok (.istore 10, 2) := by decide +kernel
theorem dL_holds_410 : decode cL_holds 410 = .ok (.iconst (-1), 1) := by decide +kernel
theorem dL_holds_411 : decode cL_holds 411 = .ok (.istore 11, 2) := by decide +kernel
theorem dL_holds_413 : decode cL_holds 413 = .ok (.iconst 0, 1) := by decide +kernel
theorem dL_holds_414 : decode cL_holds 414 = .ok (.istore 12, 2) := by decide +kernel
theorem dL_holds_416 : decode cL_holds 416 = .ok (.iload 12, 2) := by decide +kernel
theorem dL_holds_418 : decode cL_holds 418 = .ok (.iload_n 2, 1) := by decide +kernel
theorem dL_holds_419 : decode cL_holds 419 = .ok (.if_icmp .ge 172, 3) := by decide +kernel
theorem dL_holds_422 : decode cL_holds 422 = .ok (.iload 8, 2) := by decide +kernel
theorem dL_holds_424 : decode cL_holds 424 = .ok (.ifCond .eq 167, 3) := by decide +kernel
theorem dL_holds_427 : decode cL_holds 427 = .ok (.aload_n 0, 1) := by decide +kernel
theorem dL_holds_428 : decode cL_holds 428 = .ok (.iconst 5, 1) := by decide +kernel
theorem dL_holds_429 : decode cL_holds 429 = .ok (.iload 12, 2) := by decide +kernel
theorem dL_holds_431 : decode cL_holds 431 = .ok (.iconst 0, 1) := by decide +kernel
theorem dL_holds_432 : decode cL_holds 432 = .ok (.iconst 0, 1) := by decide +kernel
theorem dL_holds_433 : decode cL_holds 433 = .ok (.invokestatic 169, 3) := by decide +kernel
theorem dL_holds_436 : decode cL_holds 436 = .ok (.istore 13, 2) := by decide +kernel
theorem dL_holds_438 : decode cL_holds 438 = .ok (.aload_n 0, 1) := by decide +kernel
theorem dL_holds_439 : decode cL_holds 439 = .ok (.iconst 5, 1) := by decide +kernel
theorem dL_holds_440 : decode cL_holds 440 = .ok (.iload 12, 2) := by decide +kernel
theorem dL_holds_442 : decode cL_holds 442 = .ok (.iconst 1, 1) := by decide +kernel
theorem dL_holds_443 : decode cL_holds 443 = .ok (.iconst 0, 1) := by decide +kernel
theorem dL_holds_444 : decode cL_holds 444 = .ok (.invokestatic 169, 3) := by decide +kernel
theorem dL_holds_447 : decode cL_holds 447 = .ok (.istore 14, 2) := by decide +kernel
theorem dL_holds_449 : decode cL_holds 449 = .ok (.iload 9, 2) := by decide +kernel
theorem dL_holds_451 : decode cL_holds 451 = .ok (.iload 14, 2) := by decide +kernel
theorem dL_holds_453 : decode cL_holds 453 = .ok (.iadd, 1) := by decide +kernel
theorem dL_holds_454 : decode cL_holds 454 = .ok (.istore 9, 2) := by decide +kernel
theorem dL_holds_456 : decode cL_holds 456 = .ok (.iload 14, 2) := by decide +kernel
theorem dL_holds_458 : decode cL_holds 458 = .ok (.iload 10, 2) := by decide +kernel
theorem dL_holds_460 : decode cL_holds 460 = .ok (.if_icmp .le 8, 3) := by decide +kernel
theorem dL_holds_463 : decode cL_holds 463 = .ok (.iload 14, 2) := by decide +kernel
theorem dL_holds_465 : decode cL_holds 465 = .ok (.goto 5, 3) := by decide +kernel
theorem dL_holds_468 : decode cL_holds 468 = .ok (.iload 10, 2) := by decide +kernel
theorem dL_holds_470 : decode cL_holds 470 = .ok (.istore 10, 2) := by decide +kernel
theorem dL_holds_472 : decode cL_holds 472 = .ok (.iload 13, 2) := by decide +kernel
theorem dL_holds_474 : decode cL_holds 474 = .ok (.iload 11, 2) := by decide +kernel
theorem dL_holds_476 : decode cL_holds 476 = .ok (.if_icmp .le 99, 3) := by decide +kernel
theorem dL_holds_479 : decode cL_holds 479 = .ok (.iload 14, 2) := by decide +kernel
theorem dL_holds_481 : decode cL_holds 481 = .ok (.ifCond .le 94, 3) := by decide +kernel
theorem dL_holds_484 : decode cL_holds 484 = .ok (.iload 13, 2) := by decide +kernel
theorem dL_holds_486 : decode cL_holds 486 = .ok (.iload 14, 2) := by decide +kernel
theorem dL_holds_488 : decode cL_holds 488 = .ok (.iadd, 1) := by decide +kernel
theorem dL_holds_489 : decode cL_holds 489 = .ok (.bipush 80, 2) := by decide +kernel
theorem dL_holds_491 : decode cL_holds 491 = .ok (.if_icmp .gt 84, 3) := by decide +kernel
theorem dL_holds_494 : decode cL_holds 494 = .ok (.iload 13, 2) := by decide +kernel
theorem dL_holds_496 : decode cL_holds 496 = .ok (.ifCond .eq 18, 3) := by decide +kernel
theorem dL_holds_499 : decode cL_holds 499 = .ok (.aload_n 0, 1) := by decide +kernel
theorem dL_holds_500 : decode cL_holds 500 = .ok (.iconst 4, 1) := by decide +kernel
theorem dL_holds_501 : decode cL_holds 501 = .ok (.iload 13, 2) := by decide +kernel
theorem dL_holds_503 : decode cL_holds 503 = .ok (.iconst 1, 1) := by decide +kernel
theorem dL_holds_504 : decode cL_holds 504 = .ok (.isub, 1) := by decide +kernel
theorem dL_holds_505 : decode cL_holds 505 = .ok (.iconst 0, 1) := by decide +kernel
theorem dL_holds_506 : decode cL_holds 506 = .ok (.iconst 0, 1) := by decide +kernel
theorem dL_holds_507 : decode cL_holds 507 = .ok (.invokestatic 169, 3) := by decide +kernel
theorem dL_holds_510 : decode cL_holds 510 = .ok (.iconst (-1), 1) := by decide +kernel
theorem dL_holds_511 : decode cL_holds 511 = .ok (.if_icmp .eq 64, 3) := by decide +kernel
theorem dL_holds_514 : decode cL_holds 514 = .ok (.iload 13, 2) := by decide +kernel
theorem dL_holds_516 : decode cL_holds 516 = .ok (.iload 14, 2) := by decide +kernel
theorem dL_holds_518 : decode cL_holds 518 = .ok (.iadd, 1) := by decide +kernel
theorem dL_holds_519 : decode cL_holds 519 = .ok (.bipush 80, 2) := by decide +kernel
theorem dL_holds_521 : decode cL_holds 521 = .ok (.if_icmp .eq 19, 3) := by decide +kernel
theorem dL_holds_524 : decode cL_holds 524 = .ok (.aload_n 0, 1) := by decide +kernel
theorem dL_holds_525 : decode cL_holds 525 = .ok (.iconst 4, 1) := by decide +kernel
theorem dL_holds_526 : decode cL_holds 526 = .ok (.iload 13, 2) := by decide +kernel
theorem dL_holds_528 : decode cL_holds 528 = .ok (.iload 14, 2) := by decide +kernel
theorem dL_holds_530 : decode cL_holds 530 = .ok (.iadd, 1) := by decide +kernel
theorem dL_holds_531 : decode cL_holds 531 = .ok (.iconst 0, 1) := by decide +kernel
theorem dL_holds_532 : decode cL_holds 532 = .ok (.iconst 0, 1) := by decide +kernel
theorem dL_holds_533 : decode cL_holds 533 = .ok (.invokestatic 169, 3) := by decide +kernel
theorem dL_holds_536 : decode cL_holds 536 = .ok (.iconst (-1), 1) := by decide +kernel
theorem dL_holds_537 : decode cL_holds 537 = .ok (.if_icmp .eq 38, 3) := by decide +kernel
theorem dL_holds_540 : decode cL_holds 540 = .ok (.aload_n 0, 1) := by decide +kernel
theorem dL_holds_541 : decode cL_holds 541 = .ok (.iconst 4, 1) := by decide +kernel
theorem dL_holds_542 : decode cL_holds 542 = .ok (.iload 13, 2) := by decide +kernel
theorem dL_holds_544 : decode cL_holds 544 = .ok (.iconst 0, 1) := by decide +kernel
theorem dL_holds_545 : decode cL_holds 545 = .ok (.iconst 0, 1) := by decide +kernel
theorem dL_holds_546 : decode cL_holds 546 = .ok (.invokestatic 169, 3) := by decide +kernel
theorem dL_holds_549 : decode cL_holds 549 = .ok (.iconst (-1), 1) := by decide +kernel
theorem dL_holds_550 : decode cL_holds 550 = .ok (.if_icmp .ne 25, 3) := by decide +kernel
theorem dL_holds_553 : decode cL_holds 553 = .ok (.aload_n 0, 1) := by decide +kernel
theorem dL_holds_554 : decode cL_holds 554 = .ok (.iconst 4, 1) := by decide +kernel
theorem dL_holds_555 : decode cL_holds 555 = .ok (.iload 13, 2) := by decide +kernel
theorem dL_holds_557 : decode cL_holds 557 = .ok (.iload 14, 2) := by decide +kernel
theorem dL_holds_559 : decode cL_holds 559 = .ok (.iadd, 1) := by decide +kernel
theorem dL_holds_560 : decode cL_holds 560 = .ok (.iconst 1, 1) := by decide +kernel
theorem dL_holds_561 : decode cL_holds 561 = .ok (.isub, 1) := by decide +kernel
theorem dL_holds_562 : decode cL_holds 562 = .ok (.iconst 0, 1) := by decide +kernel
theorem dL_holds_563 : decode cL_holds 563 = .ok (.iconst 0, 1) := by decide +kernel
theorem dL_holds_564 : decode cL_holds 564 = .ok (.invokestatic 169, 3) := by decide +kernel
theorem dL_holds_567 : decode cL_holds 567 = .ok (.iconst (-1), 1) := by decide +kernel
theorem dL_holds_568 : decode cL_holds 568 = .ok (.if_icmp .ne 7, 3) := by decide +kernel
theorem dL_holds_571 : decode cL_holds 571 = .ok (.iconst 1, 1) := by decide +kernel
theorem dL_holds_572 : decode cL_holds 572 = .ok (.goto 4, 3) := by decide +kernel
theorem dL_holds_575 : decode cL_holds 575 = .ok (.iconst 0, 1) := by decide +kernel
theorem dL_holds_576 : decode cL_holds 576 = .ok (.istore 8, 2) := by decide +kernel
theorem dL_holds_578 : decode cL_holds 578 = .ok (.iload 13, 2) := by decide +kernel
theorem dL_holds_580 : decode cL_holds 580 = .ok (.iload 14, 2) := by decide +kernel
theorem dL_holds_582 : decode cL_holds 582 = .ok (.iadd, 1) := by decide +kernel
theorem dL_holds_583 : decode cL_holds 583 = .ok (.istore 11, 2) := by decide +kernel
theorem dL_holds_585 : decode cL_holds 585 = .ok (.iinc 12 1, 3) := by decide +kernel
theorem dL_holds_588 : decode cL_holds 588 = .ok (.goto (-172), 3) := by decide +kernel
theorem dL_holds_591 : decode cL_holds 591 = .ok (.iconst 2, 1) := by decide +kernel
theorem dL_holds_592 : decode cL_holds 592 = .ok (.istore 12, 2) := by decide +kernel
theorem dL_holds_594 : decode cL_holds 594 = .ok (.iload 12, 2) := by decide +kernel
theorem dL_holds_596 : decode cL_holds 596 = .ok (.bipush 9, 2) := by decide +kernel
theorem dL_holds_598 : decode cL_holds 598 = .ok (.if_icmp .ge 250, 3) := by decide +kernel
theorem dL_holds_601 : decode cL_holds 601 = .ok (.iload 8, 2) := by decide +kernel
theorem dL_holds_603 : decode cL_holds 603 = .ok (.ifCond .eq 245, 3) := by decide +kernel
theorem dL_holds_606 : decode cL_holds 606 = .ok (.aload_n 0, 1) := by decide +kernel
theorem dL_holds_607 : decode cL_holds 607 = .ok (.bipush 15, 2) := by decide +kernel
theorem dL_holds_609 : decode cL_holds 609 = .ok (.iload 12, 2) := by decide +kernel
theorem dL_holds_611 : decode cL_holds 611 = .ok (.iconst 0, 1) := by decide +kernel
theorem dL_holds_612 : decode cL_holds 612 = .ok (.iconst 0, 1) := by decide +kernel
theorem dL_holds_613 : decode cL_holds 613 = .ok (.invokestatic 169, 3) := by decide +kernel
theorem dL_holds_616 : decode cL_holds 616 = .ok (.istore 13, 2) := by decide +kernel
theorem dL_holds_618 : decode cL_holds 618 = .ok (.aload_n 0, 1) := by decide +kernel
theorem dL_holds_619 : decode cL_holds 619 = .ok (.bipush 14, 2) := by decide +kernel
theorem dL_holds_621 : decode cL_holds 621 = .ok (.iload 12, 2) := by decide +kernel
theorem dL_holds_623 : decode cL_holds 623 = .ok (.iconst 0, 1) := by decide +kernel
theorem dL_holds_624 : decode cL_holds 624 = .ok (.iconst 0, 1) := by decide +kernel
theorem dL_holds_625 : decode cL_holds 625 = .ok (.invokestatic 169, 3) := by decide +kernel
theorem dL_holds_628 : decode cL_holds 628 = .ok (.istore 14, 2) := by decide +kernel
theorem dL_holds_630 : decode cL_holds 630 = .ok (.aload_n 0, 1) := by decide +kernel
theorem dL_holds_631 : decode cL_holds 631 = .ok (.bipush 16, 2) := by decide +kernel
theorem dL_holds_633 : decode cL_holds 633 = .ok (.iload 12, 2) := by decide +kernel
theorem dL_holds_635 : decode cL_holds 635 = .ok (.iconst 0, 1) := by decide +kernel
theorem dL_holds_636 : decode cL_holds 636 = .ok (.iconst 0, 1) := by decide +kernel
theorem dL_holds_637 : decode cL_holds 637 = .ok (.invokestatic 169, 3) := by decide +kernel
theorem dL_holds_640 : decode cL_holds 640 = .ok (.istore 15, 2) := by decide +kernel
theorem dL_holds_642 : decode cL_holds 642 = .ok (.iload 14, 2) := by decide +kernel
theorem dL_holds_644 : decode cL_holds 644 = .ok (.iload 10, 2) := by decide +kernel
theorem dL_holds_646 : decode cL_holds 646 = .ok (.iload 12, 2) := by decide +kernel
theorem dL_holds_648 : decode cL_holds 648 = .ok (.if_icmp .ge 7, 3) := by decide +kernel
theorem dL_holds_651 : decode cL_holds 651 = .ok (.iconst 1, 1) := by decide +kernel
theorem dL_holds_652 : decode cL_holds 652 = .ok (.goto 17, 3) := by decide +kernel
theorem dL_holds_655 : decode cL_holds 655 = .ok (.iload 10, 2) := by decide +kernel
theorem dL_holds_657 : decode cL_holds 657 = .ok (.iload 12, 2) := by decide +kernel
theorem dL_holds_659 : decode cL_holds 659 = .ok (.iload_n 3, 1) := by decide +kernel
theorem dL_holds_660 : decode cL_holds 660 = .ok (.iadd, 1) := by decide +kernel
theorem dL_holds_661 : decode cL_holds 661 = .ok (.if_icmp .ge 7, 3) := by decide +kernel
theorem dL_holds_664 : decode cL_holds 664 = .ok (.iconst 2, 1) := by decide +kernel
theorem dL_holds_665 : decode cL_holds 665 = .ok (.goto 4, 3) := by decide +kernel
theorem dL_holds_668 : decode cL_holds 668 = .ok (.iconst 0, 1) := by decide +kernel
theorem dL_holds_669 : decode cL_holds 669 = .ok (.if_icmp .ne 119, 3) := by decide +kernel
theorem dL_holds_672 : decode cL_holds 672 = .ok (.iload 13, 2) := by decide +kernel
theorem dL_holds_674 : decode cL_holds 674 = .ok (.iconst (-1), 1) := by decide +kernel
theorem dL_holds_675 : decode cL_holds 675 = .ok (.if_icmp .ne 7, 3) := by decide +kernel
theorem dL_holds_678 : decode cL_holds 678 = .ok (.iconst 1, 1) := by decide +kernel
theorem dL_holds_679 : decode cL_holds 679 = .ok (.goto 4, 3) := by decide +kernel
theorem dL_holds_682 : decode cL_holds 682 = .ok (.iconst 0, 1) := by decide +kernel
theorem dL_holds_683 : decode cL_holds 683 = .ok (.iload 14, 2) := by decide +kernel
theorem dL_holds_685 : decode cL_holds 685 = .ok (.ifCond .le 7, 3) := by decide +kernel
theorem dL_holds_688 : decode cL_holds 688 = .ok (.iconst 1, 1) := by decide +kernel
theorem dL_holds_689 : decode cL_holds 689 = .ok (.goto 4, 3) := by decide +kernel
theorem dL_holds_692 : decode cL_holds 692 = .ok (.iconst 0, 1) := by decide +kernel
theorem dL_holds_693 : decode cL_holds 693 = .ok (.if_icmp .ne 95, 3) := by decide +kernel
theorem dL_holds_696 : decode cL_holds 696 = .ok (.iload 15, 2) := by decide +kernel
theorem dL_holds_698 : decode cL_holds 698 = .ok (.aload_n 0, 1) := by decide +kernel
theorem dL_holds_699 : decode cL_holds 699 = .ok (.bipush 16, 2) := by decide +kernel
theorem dL_holds_701 : decode cL_holds 701 = .ok (.iload 12, 2) := by decide +kernel
theorem dL_holds_703 : decode cL_holds 703 = .ok (.iconst 1, 1) := by decide +kernel
theorem dL_holds_704 : decode cL_holds 704 = .ok (.iconst 0, 1) := by decide +kernel
theorem dL_holds_705 : decode cL_holds 705 = .ok (.invokestatic 169, 3) := by decide +kernel
theorem dL_holds_708 : decode cL_holds 708 = .ok (.if_icmp .ne 80, 3) := by decide +kernel
theorem dL_holds_711 : decode cL_holds 711 = .ok (.iload 15, 2) := by decide +kernel
theorem dL_holds_713 : decode cL_holds 713 = .ok (.ifCond .le 7, 3) := by decide +kernel
theorem dL_holds_716 : decode cL_holds 716 = .ok (.iconst 1, 1) := by decide +kernel
theorem dL_holds_717 : decode cL_holds 717 = .ok (.goto 4, 3) := by decide +kernel
theorem dL_holds_720 : decode cL_holds 720 = .ok (.iconst 0, 1) := by decide +kernel
theorem dL_holds_721 : decode cL_holds 721 = .ok (.iload 14, 2) := by decide +kernel
theorem dL_holds_723 : decode cL_holds 723 = .ok (.ifCond .ne 7, 3) := by decide +kernel
theorem dL_holds_726 : decode cL_holds 726 = .ok (.iconst 1, 1) := by decide +kernel
theorem dL_holds_727 : decode cL_holds 727 = .ok (.goto 4, 3) := by decide +kernel
theorem dL_holds_730 : decode cL_holds 730 = .ok (.iconst 0, 1) := by decide +kernel
theorem dL_holds_731 : decode cL_holds 731 = .ok (.if_icmp .ne 57, 3) := by decide +kernel
theorem dL_holds_734 : decode cL_holds 734 = .ok (.aload_n 0, 1) := by decide +kernel
theorem dL_holds_735 : decode cL_holds 735 = .ok (.bipush 17, 2) := by decide +kernel
theorem dL_holds_737 : decode cL_holds 737 = .ok (.iload 12, 2) := by decide +kernel
theorem dL_holds_739 : decode cL_holds 739 = .ok (.iconst 0, 1) := by decide +kernel
theorem dL_holds_740 : decode cL_holds 740 = .ok (.iconst 0, 1) := by decide +kernel
theorem dL_holds_741 : decode cL_holds 741 = .ok (.invokestatic 169, 3) := by decide +kernel
theorem dL_holds_744 : decode cL_holds 744 = .ok (.ifCond .ne 7, 3) := by decide +kernel
theorem dL_holds_747 : decode cL_holds 747 = .ok (.iconst 1, 1) := by decide +kernel
theorem dL_holds_748 : decode cL_holds 748 = .ok (.goto 4, 3) := by decide +kernel
theorem dL_holds_751 : decode cL_holds 751 = .ok (.iconst 0, 1) := by decide +kernel
theorem dL_holds_752 : decode cL_holds 752 = .ok (.iload 14, 2) := by decide +kernel
theorem dL_holds_754 : decode cL_holds 754 = .ok (.ifCond .ne 7, 3) := by decide +kernel
theorem dL_holds_757 : decode cL_holds 757 = .ok (.iconst 1, 1) := by decide +kernel
theorem dL_holds_758 : decode cL_holds 758 = .ok (.goto 4, 3) := by decide +kernel
theorem dL_holds_761 : decode cL_holds 761 = .ok (.iconst 0, 1) := by decide +kernel
theorem dL_holds_762 : decode cL_holds 762 = .ok (.if_icmp .ne 26, 3) := by decide +kernel
theorem dL_holds_765 : decode cL_holds 765 = .ok (.iload 14, 2) := by decide +kernel
theorem dL_holds_767 : decode cL_holds 767 = .ok (.ifCond .gt 17, 3) := by decide +kernel
theorem dL_holds_770 : decode cL_holds 770 = .ok (.aload_n 0, 1) := by decide +kernel
theorem dL_holds_771 : decode cL_holds 771 = .ok (.bipush 18, 2) := by decide +kernel
theorem dL_holds_773 : decode cL_holds 773 = .ok (.iload 12, 2) := by decide +kernel
theorem dL_holds_775 : decode cL_holds 775 = .ok (.iconst 0, 1) := by decide +kernel
theorem dL_holds_776 : decode cL_holds 776 = .ok (.iconst 0, 1) := by decide +kernel
theorem dL_holds_777 : decode cL_holds 777 = .ok (.invokestatic 169, 3) := by decide +kernel
theorem dL_holds_780 : decode cL_holds 780 = .ok (.iconst (-1), 1) := by decide +kernel
theorem dL_holds_781 : decode cL_holds 781 = .ok (.if_icmp .ne 7, 3) := by decide +kernel
theorem dL_holds_784 : decode cL_holds 784 = .ok (.iconst 1, 1) := by decide +kernel
theorem dL_holds_785 : decode cL_holds 785 = .ok (.goto 4, 3) := by decide +kernel
theorem dL_holds_788 : decode cL_holds 788 = .ok (.iconst 0, 1) := by decide +kernel
theorem dL_holds_789 : decode cL_holds 789 = .ok (.istore 8, 2) := by decide +kernel
theorem dL_holds_791 : decode cL_holds 791 = .ok (.iload 13, 2) := by decide +kernel
theorem dL_holds_793 : decode cL_holds 793 = .ok (.istore 16, 2) := by decide +kernel
theorem dL_holds_795 : decode cL_holds 795 = .ok (.iload 16, 2) := by decide +kernel
theorem dL_holds_797 : decode cL_holds 797 = .ok (.iload 13, 2) := by decide +kernel
theorem dL_holds_799 : decode cL_holds 799 = .ok (.iload 12, 2) := by decide +kernel
theorem dL_holds_801 : decode cL_holds 801 = .ok (.iadd, 1) := by decide +kernel
theorem dL_holds_802 : decode cL_holds 802 = .ok (.if_icmp .ge 40, 3) := by decide +kernel
theorem dL_holds_805 : decode cL_holds 805 = .ok (.iload 8, 2) := by decide +kernel
theorem dL_holds_807 : decode cL_holds 807 = .ok (.ifCond .eq 35, 3) := by decide +kernel
theorem dL_holds_810 : decode cL_holds 810 = .ok (.iload 13, 2) := by decide +kernel
theorem dL_holds_812 : decode cL_holds 812 = .ok (.iconst (-1), 1) := by decide +kernel
theorem dL_holds_813 : decode cL_holds 813 = .ok (.if_icmp .eq 29, 3) := by decide +kernel
theorem dL_holds_816 : decode cL_holds 816 = .ok (.aload_n 0, 1) := by decide +kernel
theorem dL_holds_817 : decode cL_holds 817 = .ok (.iconst 4, 1) := by decide +kernel
theorem dL_holds_818 : decode cL_holds 818 = .ok (.iload 16, 2) := by decide +kernel
theorem dL_holds_820 : decode cL_holds 820 = .ok (.iconst 0, 1) := by decide +kernel
theorem dL_holds_821 : decode cL_holds 821 = .ok (.iconst 0, 1) := by decide +kernel
theorem dL_holds_822 : decode cL_holds 822 = .ok (.invokestatic 169, 3) := by decide +kernel
theorem dL_holds_825 : decode cL_holds 825 = .ok (.iconst (-1), 1) := by decide +kernel
theorem dL_holds_826 : decode cL_holds 826 = .ok (.if_icmp .ne 7, 3) := by decide +kernel
theorem dL_holds_829 : decode cL_holds 829 = .ok (.iconst 1, 1) := by decide +kernel
theorem dL_holds_830 : decode cL_holds 830 = .ok (.goto 4, 3) := by decide +kernel
theorem dL_holds_833 : decode cL_holds 833 = .ok (.iconst 0, 1) := by decide +kernel
theorem dL_holds_834 : decode cL_holds 834 = .ok (.istore 8, 2) := by decide +kernel
theorem dL_holds_836 : decode cL_holds 836 = .ok (.iinc 16 1, 3) := by decide +kernel
theorem dL_holds_839 : decode cL_holds 839 = .ok (.goto (-44), 3) := by decide +kernel
theorem dL_holds_842 : decode cL_holds 842 = .ok (.iinc 12 1, 3) := by decide +kernel
theorem dL_holds_845 : decode cL_holds 845 = .ok (.goto (-251), 3) := by decide +kernel
theorem dL_holds_848 : decode cL_holds 848 = .ok (.iload 8, 2) := by decide +kernel
theorem dL_holds_850 : decode cL_holds 850 = .ok (.ifCond .eq 87, 3) := by decide +kernel
theorem dL_holds_853 : decode cL_holds 853 = .ok (.iload 7, 2) := by decide +kernel
theorem dL_holds_855 : decode cL_holds 855 = .ok (.ifCond .le 82, 3) := by decide +kernel
theorem dL_holds_858 : decode cL_holds 858 = .ok (.iload 5, 2) := by decide +kernel
theorem dL_holds_860 : decode cL_holds 860 = .ok (.aload_n 0, 1) := by decide +kernel
theorem dL_holds_861 : decode cL_holds 861 = .ok (.iconst 2, 1) := by decide +kernel
theorem dL_holds_862 : decode cL_holds 862 = .ok (.iconst 1, 1) := by decide +kernel
theorem dL_holds_863 : decode cL_holds 863 = .ok (.iconst 0, 1) := by decide +kernel
theorem dL_holds_864 : decode cL_holds 864 = .ok (.iconst 0, 1) := by decide +kernel
theorem dL_holds_865 : decode cL_holds 865 = .ok (.invokestatic 169, 3) := by decide +kernel
theorem dL_holds_868 : decode cL_holds 868 = .ok (.if_icmp .ne 69, 3) := by decide +kernel
theorem dL_holds_871 : decode cL_holds 871 = .ok (.iload 6, 2) := by decide +kernel
theorem dL_holds_873 : decode cL_holds 873 = .ok (.aload_n 0, 1) := by decide +kernel
theorem dL_holds_874 : decode cL_holds 874 = .ok (.iconst 2, 1) := by decide +kernel
theorem dL_holds_875 : decode cL_holds 875 = .ok (.bipush 11, 2) := by decide +kernel
theorem dL_holds_877 : decode cL_holds 877 = .ok (.iconst 0, 1) := by decide +kernel
theorem dL_holds_878 : decode cL_holds 878 = .ok (.iconst 0, 1) := by decide +kernel
theorem dL_holds_879 : decode cL_holds 879 = .ok (.invokestatic 169, 3) := by decide +kernel
theorem dL_holds_882 : decode cL_holds 882 = .ok (.if_icmp .ne 55, 3) := by decide +kernel
theorem dL_holds_885 : decode cL_holds 885 = .ok (.iload 9, 2) := by decide +kernel
theorem dL_holds_887 : decode cL_holds 887 = .ok (.aload_n 0, 1) := by decide +kernel
theorem dL_holds_888 : decode cL_holds 888 = .ok (.iconst 2, 1) := by decide +kernel
theorem dL_holds_889 : decode cL_holds 889 = .ok (.bipush 9, 2) := by decide +kernel
theorem dL_holds_891 : decode cL_holds 891 = .ok (.iconst 0, 1) := by decide +kernel
theorem dL_holds_892 : decode cL_holds 892 = .ok (.iconst 0, 1) := by decide +kernel
theorem dL_holds_893 : decode cL_holds 893 = .ok (.invokestatic 169, 3) := by decide +kernel
theorem dL_holds_896 : decode cL_holds 896 = .ok (.if_icmp .ne 41, 3) := by decide +kernel
theorem dL_holds_899 : decode cL_holds 899 = .ok (.iload 10, 2) := by decide +kernel
theorem dL_holds_901 : decode cL_holds 901 = .ok (.aload_n 0, 1) := by decide +kernel
theorem dL_holds_902 : decode cL_holds 902 = .ok (.iconst 2, 1) := by decide +kernel
theorem dL_holds_903 : decode cL_holds 903 = .ok (.bipush 8, 2) := by decide +kernel
theorem dL_holds_905 : decode cL_holds 905 = .ok (.iconst 0, 1) := by decide +kernel
theorem dL_holds_906 : decode cL_holds 906 = .ok (.iconst 0, 1) := by decide +kernel
theorem dL_holds_907 : decode cL_holds 907 = .ok (.invokestatic 169, 3) := by decide +kernel
