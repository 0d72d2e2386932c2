theorem dL_holds_910 : decode cL_holds 910 = .ok (.if_icmp .ne 27, 3) := by decide +kernel
theorem dL_holds_913 : decode cL_holds 913 = .ok (.iload 9, 2) := by decide +kernel
theorem dL_holds_915 : decode cL_holds 915 = .ok (.iload 4, 2) := by decide +kernel
theorem dL_holds_917 : decode cL_holds 917 = .ok (.iadd, 1) := by decide +kernel
theorem dL_holds_918 : decode cL_holds 918 = .ok (.aload_n 0, 1) := by decide +kernel
theorem dL_holds_919 : decode cL_holds 919 = .ok (.iconst 2, 1) := by decide +kernel
theorem dL_holds_920 : decode cL_holds 920 = .ok (.bipush 10, 2) := by decide +kernel
theorem dL_holds_922 : decode cL_holds 922 = .ok (.iconst 0, 1) := by decide +kernel
theorem dL_holds_923 : decode cL_holds 923 = .ok (.iconst 0, 1) := by decide +kernel
theorem dL_holds_924 : decode cL_holds 924 = .ok (.invokestatic 169, 3) := by decide +kernel
theorem dL_holds_927 : decode cL_holds 927 = .ok (.iadd, 1) := by decide +kernel
theorem dL_holds_928 : decode cL_holds 928 = .ok (.bipush 80, 2) := by decide +kernel
theorem dL_holds_930 : decode cL_holds 930 = .ok (.if_icmp .ne 7, 3) := by decide +kernel
theorem dL_holds_933 : decode cL_holds 933 = .ok (.iconst 1, 1) := by decide +kernel
theorem dL_holds_934 : decode cL_holds 934 = .ok (.goto 4, 3) := by decide +kernel
theorem dL_holds_937 : decode cL_holds 937 = .ok (.iconst 0, 1) := by decide +kernel
theorem dL_holds_938 : decode cL_holds 938 = .ok (.ireturn, 1) := by decide +kernel
set_option maxRecDepth 20000 in
theorem ggL_act_L_call : GoodIn wsL_act wsL_call := goodIn_ca (goodIn_ca (goodIn_ca (goodIn_r _ [4, 5, 6, 3, 7, 8, 9, 10, 11, 12, 13, 14, 15, 16, 17, 18, 19, 20, 21, 22, 23, 24, 25, 26, 27, 28, 29, 30, 31, 32, 33, 34, 35, 36, 37, 38, 39, 40, 41, 42, 43, 44, 45, 46, 47, 48, 49, 50, 51, 52, 53, 54, 55, 56, 57, 58, 59, 60, 61, 62, 63, 64, 65, 66, 67, 68, 69, 70, 71, 72, 73, 74, 75, 76, 77, 78, 79, 80, 81, 82, 83, 84, 85, 86, 87, 88, 89, 90, 91, 92, 93, 94, 95, 96, 97, 98, 99, 100, 101, 102, 103, 104, 105, 106, 107, 108, 109, 110, 111, 112, 113, 114, 115, 116, 117, 118, 119, 120, 121, 122, 123, 124, 125, 126, 127, 128, 129, 130, 131, 132, 133, 134, 135, 136, 137, 138, 139, 140, 141, 142, 143, 144, 145, 146, 147, 148, 149, 150, 151, 152, 153, 154, 155, 156, 157, 158, 159, 160, 161, 162, 163, 164, 165, 166, 167, 168, 169, 170, 171, 172, 173, 174, 175, 176, 177, 178, 179, 180, 181, 182, 183, 184, 185, 186, 187, 188, 189, 190, 191, 192, 193, 194, 195, 196, 197, 198, 199, 200, 201, 202, 203, 204, 205, 206, 207, 208, 209, 210, 211, 212, 213, 214, 215, 216, 217, 218, 219, 220, 221, 222, 223, 224, 225, 226, 227, 228, 229, 230, 231, 232, 233, 234, 235, 236, 237, 238, 239, 240, 241, 242, 243, 244, 245, 246, 247, 248, 249, 250, 251, 252, 253, 254, 255, 256, 257, 258, 259, 260, 261, 262, 263, 264, 265, 266, 267, 268, 269, 270, 271, 272, 273, 274, 275, 276, 277, 278, 279, 280, 281, 282, 283, 284, 285, 286, 287, 288, 289, 290, 291, 292, 293, 294, 295, 296, 297, 298, 299, 300, 301, 302, 303, 304, 305, 306, 307, 308, 309, 310, 311, 312, 313, 314, 315, 316, 317, 318, 319, 320, 321, 322, 323, 324, 325, 326, 327, 328, 329, 330, 331, 332, 333, 334, 335, 336, 337, 338, 339, 340, 341, 342, 343, 344, 345, 346, 347, 348, 349, 350, 351, 352, 353, 354, 355, 356, 357, 358, 359, 360, 361, 362, 363, 364, 365, 366, 367, 368, 369, 370, 371, 372, 373, 374, 375, 376, 377, 378, 379, 380, 381, 382, 383, 384, 385, 386, 387, 388, 389, 390, 391, 392, 393, 394, 395, 396, 397, 398, 399, 400, 401, 402, 403, 404, 405, 406, 407, 408, 409, 410, 411, 412, 413, 414, 415, 416, 417, 418, 419, 420, 421, 422, 423, 424, 425, 426, 427, 428, 429, 430, 431, 432, 433, 434, 435, 436, 437, 438, 439, 440, 441, 442, 443, 444, 445, 446, 447, 448, 449, 450, 451, 452, 453, 454, 455, 456, 457, 458, 459, 460, 461, 462, 463, 464, 465, 466, 467, 468, 469, 470, 471, 472, 473, 474, 475, 476, 484, 485, 486, 487, 488, 489, 490, 491, 492, 493, 494, 495, 496, 497, 498, 499, 500, 501, 502, 503, 504, 505, 506, 507, 508, 509] rfl (by decide +kernel)) (goodIn_sub (fun _ h => List.mem_cons_of_mem _ (List.mem_append_left _ (List.mem_append_left _ (List.mem_append_right _ h)))) (by decide +kernel))) (goodIn_sub (fun _ h => List.mem_cons_of_mem _ (List.mem_append_left _ (List.mem_append_right _ h))) (by decide +kernel))) (goodIn_sub (fun _ h => List.mem_cons_of_mem _ (List.mem_append_right _ h)) (by decide +kernel))
set_option maxRecDepth 20000 in
theorem gL_act_L_call : GoodIn wsL_act (va_wsS RL 169 yL_call wsL_call) := goodIn_app (goodIn_r _ [1, 2, 3] rfl (by decide +kernel)) ggL_act_L_call
set_option maxRecDepth 20000 in
theorem ggL_act_L_hydrants : GoodIn wsL_act wsL_hydrants := goodIn_ca (goodIn_ca (goodIn_r _ [479, 261, 9, 262, 11, 480, 481, 482, 15, 483, 19, 20, 38, 39, 281, 282, 283, 271, 272, 284, 127, 128, 124, 80, 125, 126, 83, 129, 130, 131, 132, 133, 134, 317, 100, 318, 319, 103, 320, 321, 322, 323, 324, 325, 326, 98, 148, 149, 150, 151, 152, 153, 84, 85, 86, 87, 88, 89, 327, 328, 329, 330, 331, 332, 120, 121, 122, 123, 135, 136, 137, 138, 139, 140, 94, 95, 96, 97, 141, 142, 143, 144, 484, 485, 486, 487, 488, 491, 492, 493, 494, 495, 496, 497, 498, 499, 500, 501, 502, 503, 504, 505, 506, 507] rfl (by decide +kernel)) (goodIn_sub (fun _ h => List.mem_cons_of_mem _ (List.mem_append_left _ (List.mem_append_right _ h))) (by decide +kernel))) (goodIn_sub (fun _ h => List.mem_cons_of_mem _ (List.mem_append_right _ h)) (by decide +kernel))
set_option maxRecDepth 20000 in
theorem gL_act_L_hydrants : GoodIn wsL_act (va_wsS RL 173 yL_hydrants wsL_hydrants) := goodIn_app (goodIn_r _ [477, 478, 3] rfl (by decide +kernel)) ggL_act_L_hydrants
theorem dL_act_0 : decode cL_act 0 = .ok (.iload_n 1, 1) := by decide +kernel
theorem dL_act_1 : decode cL_act 1 = .ok (.bipush 16, 2) := by decide +kernel
theorem dL_act_3 : decode cL_act 3 = .ok (.idiv, 1) := by decide +kernel
theorem dL_act_4 : decode cL_act 4 = .ok (.istore_n 2, 1) := by decide +kernel
theorem dL_act_5 : decode cL_act 5 = .ok (.aload_n 0, 1) := by decide +kernel
theorem dL_act_6 : decode cL_act 6 = .ok (.iconst 2, 1) := by decide +kernel
theorem dL_act_7 : decode cL_act 7 = .ok (.iconst 0, 1) := by decide +kernel
theorem dL_act_8 : decode cL_act 8 = .ok (.iconst 0, 1) := by decide +kernel
theorem dL_act_9 : decode cL_act 9 = .ok (.iconst 0, 1) := by decide +kernel
theorem dL_act_10 : decode cL_act 10 = .ok (.invokestatic 169, 3) := by decide +kernel
theorem dL_act_13 : decode cL_act 13 = .ok (.istore_n 3, 1) := by decide +kernel
theorem dL_act_14 : decode cL_act 14 = .ok (.iload_n 2, 1) := by decide +kernel
theorem dL_act_15 : decode cL_act 15 = .ok (.iload_n 3, 1) := by decide +kernel
theorem dL_act_16 : decode cL_act 16 = .ok (.irem, 1) := by decide +kernel
theorem dL_act_17 : decode cL_act 17 = .ok (.istore 4, 2) := by decide +kernel
theorem dL_act_19 : decode cL_act 19 = .ok (.iload_n 1, 1) := by decide +kernel
theorem dL_act_20 : decode cL_act 20 = .ok (.bipush 16, 2) := by decide +kernel
theorem dL_act_22 : decode cL_act 22 = .ok (.irem, 1) := by decide +kernel
theorem dL_act_23 : decode cL_act 23 = .ok (.tableswitch 271 0 13 #[69, 69, 69, 69, 103, 103, 126, 137, 148, 148, 165, 177, 216, 235], 69) := by decide +kernel
theorem dL_act_92 : decode cL_act 92 = .ok (.aload_n 0, 1) := by decide +kernel
theorem dL_act_93 : decode cL_act 93 = .ok (.bipush 7, 2) := by decide +kernel
theorem dL_act_95 : decode cL_act 95 = .ok (.iconst 2, 1) := by decide +kernel
theorem dL_act_96 : decode cL_act 96 = .ok (.iload_n 2, 1) := by decide +kernel
theorem dL_act_97 : decode cL_act 97 = .ok (.bipush 7, 2) := by decide +kernel
theorem dL_act_99 : decode cL_act 99 = .ok (.irem, 1) := by decide +kernel
theorem dL_act_100 : decode cL_act 100 = .ok (.iadd, 1) := by decide +kernel
theorem dL_act_101 : decode cL_act 101 = .ok (.iconst 1, 1) := by decide +kernel
theorem dL_act_102 : decode cL_act 102 = .ok (.iload_n 2, 1) := by decide +kernel
theorem dL_act_103 : decode cL_act 103 = .ok (.bipush 7, 2) := by decide +kernel
theorem dL_act_105 : decode cL_act 105 = .ok (.idiv, 1) := by decide +kernel
theorem dL_act_106 : decode cL_act 106 = .ok (.iload_n 2, 1) := by decide +kernel
theorem dL_act_107 : decode cL_act 107 = .ok (.iconst 3, 1) := by decide +kernel
theorem dL_act_108 : decode cL_act 108 = .ok (.irem, 1) := by decide +kernel
theorem dL_act_109 : decode cL_act 109 = .ok (.ifCond .ne 8, 3) := by decide +kernel
theorem dL_act_112 : decode cL_act 112 = .ok (.bipush 99, 2) := by decide +kernel
theorem dL_act_114 : decode cL_act 114 = .ok (.goto 5, 3) := by decide +kernel
theorem dL_act_117 : decode cL_act 117 = .ok (.bipush 20, 2) := by decide +kernel
theorem dL_act_119 : decode cL_act 119 = .ok (.irem, 1) := by decide +kernel
theorem dL_act_120 : decode cL_act 120 = .ok (.iadd, 1) := by decide +kernel
theorem dL_act_121 : decode cL_act 121 = .ok (.iconst 0, 1) := by decide +kernel
theorem dL_act_122 : decode cL_act 122 = .ok (.invokestatic 169, 3) := by decide +kernel
theorem dL_act_125 : decode cL_act 125 = .ok (.ireturn, 1) := by decide +kernel
theorem dL_act_126 : decode cL_act 126 = .ok (.aload_n 0, 1) := by decide +kernel
theorem dL_act_127 : decode cL_act 127 = .ok (.iload_n 2, 1) := by decide +kernel
theorem dL_act_128 : decode cL_act 128 = .ok (.bipush 80, 2) := by decide +kernel
theorem dL_act_130 : decode cL_act 130 = .ok (.irem, 1) := by decide +kernel
theorem dL_act_131 : decode cL_act 131 = .ok (.iload_n 2, 1) := by decide +kernel
theorem dL_act_132 : decode cL_act 132 = .ok (.bipush 80, 2) := by decide +kernel
theorem dL_act_134 : decode cL_act 134 = .ok (.idiv, 1) := by decide +kernel
theorem dL_act_135 : decode cL_act 135 = .ok (.iconst 3, 1) := by decide +kernel
theorem dL_act_136 : decode cL_act 136 = .ok (.irem, 1) := by decide +kernel
theorem dL_act_137 : decode cL_act 137 = .ok (.ifCond .le 7, 3) := by decide +kernel
theorem dL_act_140 : decode cL_act 140 = .ok (.iconst 1, 1) := by decide +kernel
theorem dL_act_141 : decode cL_act 141 = .ok (.goto 4, 3) := by decide +kernel
theorem dL_act_144 : decode cL_act 144 = .ok (.iconst 0, 1) := by decide +kernel
theorem dL_act_145 : decode cL_act 145 = .ok (.invokestatic 173, 3) := by decide +kernel
theorem dL_act_148 : decode cL_act 148 = .ok (.ireturn, 1) := by decide +kernel
theorem dL_act_149 : decode cL_act 149 = .ok (.aload_n 0, 1) := by decide +kernel
theorem dL_act_150 : decode cL_act 150 = .ok (.bipush 8, 2) := by decide +kernel
theorem dL_act_152 : decode cL_act 152 = .ok (.iload 4, 2) := by decide +kernel
theorem dL_act_154 : decode cL_act 154 = .ok (.iconst 0, 1) := by decide +kernel
theorem dL_act_155 : decode cL_act 155 = .ok (.iconst 0, 1) := by decide +kernel
theorem dL_act_156 : decode cL_act 156 = .ok (.invokestatic 169, 3) := by decide +kernel
theorem dL_act_159 : decode cL_act 159 = .ok (.ireturn, 1) := by decide +kernel
theorem dL_act_160 : decode cL_act 160 = .ok (.aload_n 0, 1) := by decide +kernel
theorem dL_act_161 : decode cL_act 161 = .ok (.bipush 9, 2) := by decide +kernel
theorem dL_act_163 : decode cL_act 163 = .ok (.iload 4, 2) := by decide +kernel
theorem dL_act_165 : decode cL_act 165 = .ok (.iconst 0, 1) := by decide +kernel
theorem dL_act_166 : decode cL_act 166 = .ok (.iconst 0, 1) := by decide +kernel
theorem dL_act_167 : decode cL_act 167 = .ok (.invokestatic 169, 3) := by decide +kernel
theorem dL_act_170 : decode cL_act 170 = .ok (.ireturn, 1) := by decide +kernel
theorem dL_act_171 : decode cL_act 171 = .ok (.aload_n 0, 1) := by decide +kernel
theorem dL_act_172 : decode cL_act 172 = .ok (.bipush 10, 2) := by decide +kernel
theorem dL_act_174 : decode cL_act 174 = .ok (.iload 4, 2) := by decide +kernel
theorem dL_act_176 : decode cL_act 176 = .ok (.iload_n 2, 1) := by decide +kernel
theorem dL_act_177 : decode cL_act 177 = .ok (.bipush 40, 2) := by decide +kernel
theorem dL_act_179 : decode cL_act 179 = .ok (.idiv, 1) := by decide +kernel
theorem dL_act_180 : decode cL_act 180 = .ok (.bipush 80, 2) := by decide +kernel
theorem dL_act_182 : decode cL_act 182 = .ok (.irem, 1) := by decide +kernel
theorem dL_act_183 : decode cL_act 183 = .ok (.iconst 0, 1) := by decide +kernel
theorem dL_act_184 : decode cL_act 184 = .ok (.invokestatic 169, 3) := by decide +kernel
theorem dL_act_187 : decode cL_act 187 = .ok (.ireturn, 1) := by decide +kernel
theorem dL_act_188 : decode cL_act 188 = .ok (.aload_n 0, 1) := by decide +kernel
theorem dL_act_189 : decode cL_act 189 = .ok (.bipush 12, 2) := by decide +kernel
theorem dL_act_191 : decode cL_act 191 = .ok (.iconst 0, 1) := by decide +kernel
theorem dL_act_192 : decode cL_act 192 = .ok (.iload_n 2, 1) := by decide +kernel
theorem dL_act_193 : decode cL_act 193 = .ok (.iconst 3, 1) := by decide +kernel
theorem dL_act_194 : decode cL_act 194 = .ok (.irem, 1) := by decide +kernel
theorem dL_act_195 : decode cL_act 195 = .ok (.iconst 0, 1) := by decide +kernel
theorem dL_act_196 : decode cL_act 196 = .ok (.invokestatic 169, 3) := by decide +kernel
theorem dL_act_199 : decode cL_act 199 = .ok (.ireturn, 1) := by decide +kernel
theorem dL_act_200 : decode cL_act 200 = .ok (.iload_n 2, 1) := by decide +kernel
theorem dL_act_201 : decode cL_act 201 = .ok (.iconst 2, 1) := by decide +kernel
theorem dL_act_202 : decode cL_act 202 = .ok (.irem, 1) := by decide +kernel
theorem dL_act_203 : decode cL_act 203 = .ok (.ifCond .ne 19, 3) := by decide +kernel
theorem dL_act_206 : decode cL_act 206 = .ok (.aload_n 0, 1) := by decide +kernel
theorem dL_act_207 : decode cL_act 207 = .ok (.bipush 12, 2) := by decide +kernel
theorem dL_act_209 : decode cL_act 209 = .ok (.iconst 1, 1) := by decide +kernel
theorem dL_act_210 : decode cL_act 210 = .ok (.iload_n 2, 1) := by decide +kernel
theorem dL_act_211 : decode cL_act 211 = .ok (.iconst 2, 1) := by decide +kernel
theorem dL_act_212 : decode cL_act 212 = .ok (.idiv, 1) := by decide +kernel
theorem dL_act_213 : decode cL_act 213 = .ok (.iconst 5, 1) := by decide +kernel
theorem dL_act_214 : decode cL_act 214 = .ok (.irem, 1) := by decide +kernel
theorem dL_act_215 : decode cL_act 215 = .ok (.iconst 0, 1) := by decide +kernel
theorem dL_act_216 : decode cL_act 216 = .ok (.invokestatic 169, 3) := by decide +kernel
theorem dL_act_219 : decode cL_act 219 = .ok (.goto 19, 3) := by decide +kernel
theorem dL_act_222 : decode cL_act 222 = .ok (.aload_n 0, 1) := by decide +kernel
theorem dL_act_223 : decode cL_act 223 = .ok (.bipush 12, 2) := by decide +kernel
theorem dL_act_225 : decode cL_act 225 = .ok (.iconst 2, 1) := by decide +kernel
theorem dL_act_226 : decode cL_act 226 = .ok (.iconst 1, 1) := by decide +kernel
theorem dL_act_227 : decode cL_act 227 = .ok (.iload_n 2, 1) := by decide +kernel
theorem dL_act_228 : decode cL_act 228 = .ok (.iconst 2, 1) := by decide +kernel
theorem dL_act_229 : decode cL_act 229 = .ok (.idiv, 1) := by decide +kernel
theorem dL_act_230 : decode cL_act 230 = .ok (.bipush 30, 2) := by decide +kernel
theorem dL_act_232 : decode cL_act 232 = .ok (.irem, 1) := by decide +kernel
theorem dL_act_233 : decode cL_act 233 = .ok (.iadd, 1) := by decide +kernel
theorem dL_act_234 : decode cL_act 234 = .ok (.iconst 0, 1) := by decide +kernel
theorem dL_act_235 : decode cL_act 235 = .ok (.invokestatic 169, 3) := by decide +kernel
theorem dL_act_238 : decode cL_act 238 = .ok (.ireturn, 1) := by decide +kernel
theorem dL_act_239 : decode cL_act 239 = .ok (.iload_n 3, 1) := by decide +kernel
theorem dL_act_240 : decode cL_act 240 = .ok (.iconst 3, 1) := by decide +kernel
theorem dL_act_241 : decode cL_act 241 = .ok (.if_icmp .ge 7, 3) := by decide +kernel
theorem dL_act_244 : decode cL_act 244 = .ok (.iconst (-1), 1) := by decide +kernel
theorem dL_act_245 : decode cL_act 245 = .ok (.goto 12, 3) := by decide +kernel
theorem dL_act_248 : decode cL_act 248 = .ok (.aload_n 0, 1) := by decide +kernel
theorem dL_act_249 : decode cL_act 249 = .ok (.bipush 13, 2) := by decide +kernel
theorem dL_act_251 : decode cL_act 251 = .ok (.iconst 0, 1) := by decide +kernel
theorem dL_act_252 : decode cL_act 252 = .ok (.iconst 0, 1) := by decide +kernel
theorem dL_act_253 : decode cL_act 253 = .ok (.iconst 0, 1) := by decide +kernel
theorem dL_act_254 : decode cL_act 254 = .ok (.invokestatic 169, 3) := by decide +kernel
theorem dL_act_257 : decode cL_act 257 = .ok (.ireturn, 1) := by decide +kernel
theorem dL_act_258 : decode cL_act 258 = .ok (.iload_n 2, 1) := by decide +kernel
theorem dL_act_259 : decode cL_act 259 = .ok (.iconst 2, 1) := by decide +kernel
theorem dL_act_260 : decode cL_act 260 = .ok (.irem, 1) := by decide +kernel
theorem dL_act_261 : decode cL_act 261 = .ok (.ifCond .ne 19, 3) := by decide +kernel
theorem dL_act_264 : decode cL_act 264 = .ok (.aload_n 0, 1) := by decide +kernel
theorem dL_act_265 : decode cL_act 265 = .ok (.bipush 19, 2) := by decide +kernel
theorem dL_act_267 : decode cL_act 267 = .ok (.iload_n 2, 1) := by decide +kernel
theorem dL_act_268 : decode cL_act 268 = .ok (.iconst 2, 1) := by decide +kernel
theorem dL_act_269 : decode cL_act 269 = .ok (.idiv, 1) := by decide +kernel
theorem dL_act_270 : decode cL_act 270 = .ok (.iconst 2, 1) := by decide +kernel
theorem dL_act_271 : decode cL_act 271 = .ok (.irem, 1) := by decide +kernel
theorem dL_act_272 : decode cL_act 272 = .ok (.iconst 0, 1) := by decide +kernel
theorem dL_act_273 : decode cL_act 273 = .ok (.iconst 0, 1) := by decide +kernel
theorem dL_act_274 : decode cL_act 274 = .ok (.invokestatic 169, 3) := by decide +kernel
theorem dL_act_277 : decode cL_act 277 = .ok (.goto 16, 3) := by decide +kernel
theorem dL_act_280 : decode cL_act 280 = .ok (.aload_n 0, 1) := by decide +kernel
theorem dL_act_281 : decode cL_act 281 = .ok (.bipush 20, 2) := by decide +kernel
theorem dL_act_283 : decode cL_act 283 = .ok (.iload_n 2, 1) := by decide +kernel
theorem dL_act_284 : decode cL_act 284 = .ok (.iconst 2, 1) := by decide +kernel
theorem dL_act_285 : decode cL_act 285 = .ok (.idiv, 1) := by decide +kernel
theorem dL_act_286 : decode cL_act 286 = .ok (.iconst 2, 1) := by decide +kernel
theorem dL_act_287 : decode cL_act 287 = .ok (.irem, 1) := by decide +kernel
theorem dL_act_288 : decode cL_act 288 = .ok (.iconst 0, 1) := by decide +kernel
theorem dL_act_289 : decode cL_act 289 = .ok (.iconst 0, 1) := by decide +kernel
theorem dL_act_290 : decode cL_act 290 = .ok (.invokestatic 169, 3) := by decide +kernel
theorem dL_act_293 : decode cL_act 293 = .ok (.ireturn, 1) := by decide +kernel
theorem dL_act_294 : decode cL_act 294 = .ok (.aload_n 0, 1) := by decide +kernel
theorem dL_act_295 : decode cL_act 295 = .ok (.bipush 11, 2) := by decide +kernel
theorem dL_act_297 : decode cL_act 297 = .ok (.iconst 1, 1) := by decide +kernel
theorem dL_act_298 : decode cL_act 298 = .ok (.iload_n 2, 1) := by decide +kernel
theorem dL_act_299 : decode cL_act 299 = .ok (.bipush 9, 2) := by decide +kernel
theorem dL_act_301 : decode cL_act 301 = .ok (.irem, 1) := by decide +kernel
theorem dL_act_302 : decode cL_act 302 = .ok (.iadd, 1) := by decide +kernel
theorem dL_act_303 : decode cL_act 303 = .ok (.iconst 0, 1) := by decide +kernel
theorem dL_act_304 : decode cL_act 304 = .ok (.iconst 0, 1) := by decide +kernel
theorem dL_act_305 : decode cL_act 305 = .ok (.invokestatic 169, 3) := by decide +kernel
theorem dL_act_308 : decode cL_act 308 = .ok (.ireturn, 1) := by decide +kernel
set_option maxRecDepth 20000 in
theorem ggL_alike_L_doSimulate : GoodIn wsL_alike wsL_doSimulate := goodIn_ca (goodIn_r _ [4, 5, 6, 7, 8, 9, 10, 11, 12, 13, 14, 15, 16, 17, 18, 19, 20, 21, 22, 23, 24, 25, 26, 27, 28, 29, 30, 31, 32, 33, 34, 35, 36, 37, 38, 39, 40, 41, 42, 43, 44, 45, 46, 47, 48, 49, 50, 51, 52, 53, 54, 55, 56, 57, 58, 59, 60, 61, 62, 63, 64, 65, 66, 67, 68, 69, 70, 71, 72, 73, 74, 75, 76, 77, 78, 79, 80, 81, 82, 83, 84, 85, 86, 87, 88, 89, 90, 91, 92, 93, 94, 95, 96, 97, 98, 99, 100, 101, 102, 103, 104, 105, 106, 107, 108, 109, 110, 111, 112, 113, 114, 115, 116, 117, 118, 119, 120, 121, 122, 123, 124, 125, 126, 127, 128, 129, 130, 131, 132, 133, 134, 135, 136, 137, 138, 139, 140, 141, 142, 143, 144, 145, 146, 147, 148, 149, 150, 151, 152, 153, 154, 155, 156, 157, 158, 159, 498, 499, 500, 501, 502, 503, 504, 505, 506, 507, 508, 509, 510, 511, 512, 513, 514, 515, 516] rfl (by decide +kernel)) (goodIn_sub (fun _ h => List.mem_cons_of_mem _ (List.mem_append_left _ (List.mem_append_left _ (List.mem_append_right _ h)))) (by decide +kernel))
set_option maxRecDepth 20000 in
theorem gL_alike_L_doSimulate : GoodIn wsL_alike (va_wsS RL 186 yL_doSimulate wsL_doSimulate) := goodIn_app (goodIn_r _ [1, 2, 3] rfl (by decide +kernel)) ggL_alike_L_doSimulate
set_option maxRecDepth 20000 in
theorem ggL_alike_L_jams : GoodIn wsL_alike wsL_jams := goodIn_ca (goodIn_r _ [162, 5, 6, 163, 164, 165, 10, 166, 14, 15, 167, 168, 169, 12, 13, 170, 51, 52, 16, 17, 18, 19, 20, 21, 22, 23, 24, 25, 26, 27, 28, 29, 30, 31, 32, 33, 34, 35, 36, 37, 38, 39, 171, 172, 173, 67, 68, 69, 70, 41, 42, 43, 44, 71, 72, 73, 74, 75, 76, 77, 78, 79, 80, 81, 82, 83, 84, 85, 86, 87, 88, 89, 90, 59, 60, 91, 92, 93, 94, 498, 499, 500, 501, 502, 503, 504, 505, 506, 507, 508, 509, 510, 511, 512, 513, 514, 515, 516] rfl (by decide +kernel)) (goodIn_sub (fun _ h => List.mem_cons_of_mem _ (List.mem_append_left _ (List.mem_append_left _ (List.mem_append_right _ h)))) (by decide +kernel))
set_option maxRecDepth 20000 in
theorem gL_alike_L_jams : GoodIn wsL_alike (va_wsS RL 177 yL_jams wsL_jams) := goodIn_app (goodIn_r _ [160, 161, 3] rfl (by decide +kernel)) ggL_alike_L_jams
set_option maxRecDepth 20000 in
theorem ggL_alike_L_call : GoodIn wsL_alike wsL_call := goodIn_ca (goodIn_ca (goodIn_ca (goodIn_r _ [176, 177, 178, 3, 179, 5, 180, 6, 181, 182, 183, 184, 10, 185, 12, 13, 186, 187, 188, 189, 190, 191, 192, 193, 194, 195, 196, 197, 198, 199, 200, 201, 202, 203, 204, 15, 205, 206, 207, 208, 209, 210, 211, 212, 213, 214, 215, 216, 217, 218, 219, 220, 221, 222, 223, 224, 225, 226, 227, 228, 229, 230, 231, 232, 233, 234, 235, 236, 237, 238, 239, 240, 241, 242, 243, 244, 245, 17, 246, 247, 20, 28, 29, 30, 31, 32, 33, 248, 249, 250, 251, 91, 92, 93, 94, 21, 252, 253, 254, 255, 256, 257, 258, 259, 260, 261, 262, 263, 264, 265, 266, 267, 268, 269, 270, 271, 272, 106, 107, 108, 109, 110, 111, 112, 113, 114, 115, 116, 117, 118, 65, 66, 87, 88, 89, 90, 59, 60, 119, 120, 121, 122, 48, 49, 50, 22, 23, 24, 25, 26, 27, 51, 52, 53, 54, 55, 56, 57, 58, 61, 62, 63, 64, 67, 68, 69, 70, 41, 42, 43, 44, 71, 72, 73, 74, 75, 76, 77, 78, 79, 80, 81, 82, 83, 84, 85, 86, 95, 96, 97, 98, 99, 100, 101, 102, 103, 104, 105, 273, 274, 275, 276, 277, 278, 279, 126, 127, 128, 129, 130, 131, 132, 133, 134, 135, 136, 137, 138, 139, 140, 141, 142, 143, 144, 145, 146, 147, 148, 149, 150, 151, 152, 153, 154, 155, 156, 280, 281, 282, 283, 284, 285, 286, 157, 158, 159, 287, 288, 289, 290, 291, 292, 293, 294, 295, 296, 297, 298, 299, 300, 301, 302, 303, 304, 305, 306, 307, 308, 309, 310, 311, 312, 313, 314, 315, 316, 317, 318, 319, 320, 321, 322, 323, 324, 325, 326, 327, 328, 329, 330, 331, 332, 333, 334, 335, 336, 337, 338, 339, 340, 341, 342, 343, 344, 345, 346, 347, 348, 349, 167, 168, 169, 170, 350, 351, 352, 353, 354, 355, 356, 357, 16, 18, 19, 34, 35, 36, 37, 38, 39, 358, 359, 360, 361, 362, 363, 364, 365, 366, 367, 368, 369, 370, 371, 372, 373, 374, 375, 376, 377, 378, 379, 380, 381, 382, 383, 384, 385, 386, 387, 388, 389, 390, 391, 392, 393, 394, 395, 396, 397, 398, 399, 400, 401, 402, 403, 404, 405, 406, 407, 408, 409, 410, 411, 412, 413, 414, 415, 416, 417, 418, 419, 420, 421, 422, 423, 424, 425, 426, 427, 428, 429, 430, 431, 432, 433, 434, 435, 436, 437, 14, 438, 439, 440, 171, 172, 173, 441, 442, 443, 444, 445, 446, 447, 448, 449, 450, 451, 452, 453, 454, 455, 456, 457, 458, 459, 460, 461, 462, 463, 464, 465, 466, 467, 468, 469, 470, 471, 472, 473, 474, 475, 476, 477, 478, 479, 480, 481, 482, 483, 484, 485, 486, 487, 488, 489, 490, 491, 492, 493, 494, 495, 496, 497, 498, 499, 500, 501, 502, 517, 518, 503, 504, 505, 506, 507, 508, 509, 510, 511, 512, 513, 514, 515, 516, 519, 520, 521, 522, 523] rfl (by decide +kernel)) (goodIn_sub (fun _ h => List.mem_cons_of_mem _ (List.mem_append_left _ (List.mem_append_left _ (List.mem_append_right _ h)))) (by decide +kernel))) (goodIn_sub (fun _ h => List.mem_cons_of_mem _ (List.mem_append_left _ (List.mem_append_right _ h))) (by decide +kernel))) (goodIn_sub (fun _ h => List.mem_cons_of_mem _ (List.mem_append_right _ h)) (by decide +kernel))
set_option maxRecDepth 20000 in
theorem gL_alike_L_call : GoodIn wsL_alike (va_wsS RL 169 yL_call wsL_call) := goodIn_app (goodIn_r _ [174, 175, 3] rfl (by decide +kernel)) ggL_alike_L_call
theorem dL_alike_0 : decode cL_alike 0 = .ok (.aload_n 0, 1) := by decide +kernel
theorem dL_alike_1 : decode cL_alike 1 = .ok (.iload_n 2, 1) := by decide +kernel
theorem dL_alike_2 : decode cL_alike 2 = .ok (.i2l, 1) := by decide +kernel
theorem dL_alike_3 : decode cL_alike 3 = .ok (.iconst 1, 1) := by decide +kernel
theorem dL_alike_4 : decode cL_alike 4 = .ok (.iload_n 2, 1) := by decide +kernel
theorem dL_alike_5 : decode cL_alike 5 = .ok (.bipush 30, 2) := by decide +kernel
theorem dL_alike_7 : decode cL_alike 7 = .ok (.irem, 1) := by decide +kernel
theorem dL_alike_8 : decode cL_alike 8 = .ok (.iadd, 1) := by decide +kernel
theorem dL_alike_9 : decode cL_alike 9 = .ok (.invokestatic 186, 3) := by decide +kernel
theorem dL_alike_12 : decode cL_alike 12 = .ok (.aload_n 1, 1) := by decide +kernel
theorem dL_alike_13 : decode cL_alike 13 = .ok (.iload_n 2, 1) := by decide +kernel
theorem dL_alike_14 : decode cL_alike 14 = .ok (.i2l, 1) := by decide +kernel
theorem dL_alike_15 : decode cL_alike 15 = .ok (.iconst 1, 1) := by decide +kernel
theorem dL_alike_16 : decode cL_alike 16 = .ok (.iload_n 2, 1) := by decide +kernel
theorem dL_alike_17 : decode cL_alike 17 = .ok (.bipush 30, 2) := by decide +kernel
theorem dL_alike_19 : decode cL_alike 19 = .ok (.irem, 1) := by decide +kernel
theorem dL_alike_20 : decode cL_alike 20 = .ok (.iadd, 1) := by decide +kernel
theorem dL_alike_21 : decode cL_alike 21 = .ok (.invokestatic 186, 3) := by decide +kernel
theorem dL_alike_24 : decode cL_alike 24 = .ok (.if_icmp .ne 34, 3) := by decide +kernel
theorem dL_alike_27 : decode cL_alike 27 = .ok (.aload_n 0, 1) := by decide +kernel
theorem dL_alike_28 : decode cL_alike 28 = .ok (.iconst 2, 1) := by decide +kernel
theorem dL_alike_29 : decode cL_alike 29 = .ok (.iload_n 2, 1) := by decide +kernel
theorem dL_alike_30 : decode cL_alike 30 = .ok (.bipush 7, 2) := by decide +kernel
theorem dL_alike_32 : decode cL_alike 32 = .ok (.irem, 1) := by decide +kernel
theorem dL_alike_33 : decode cL_alike 33 = .ok (.iadd, 1) := by decide +kernel
theorem dL_alike_34 : decode cL_alike 34 = .ok (.iload_n 2, 1) := by decide +kernel
theorem dL_alike_35 : decode cL_alike 35 = .ok (.i2l, 1) := by decide +kernel
theorem dL_alike_36 : decode cL_alike 36 = .ok (.invokestatic 177, 3) := by decide +kernel
theorem dL_alike_39 : decode cL_alike 39 = .ok (.aload_n 1, 1) := by decide +kernel
theorem dL_alike_40 : decode cL_alike 40 = .ok (.iconst 2, 1) := by decide +kernel
theorem dL_alike_41 : decode cL_alike 41 = .ok (.iload_n 2, 1) := by decide +kernel
theorem dL_alike_42 : decode cL_alike 42 = .ok (.bipush 7, 2) := by decide +kernel
theorem dL_alike_44 : decode cL_alike 44 = .ok (.irem, 1) := by decide +kernel
theorem dL_alike_45 : decode cL_alike 45 = .ok (.iadd, 1) := by decide +kernel
theorem dL_alike_46 : decode cL_alike 46 = .ok (.iload_n 2, 1) := by decide +kernel
theorem dL_alike_47 : decode cL_alike 47 = .ok (.i2l, 1) := by decide +kernel
theorem dL_alike_48 : decode cL_alike 48 = .ok (.invokestatic 177, 3) := by decide +kernel
theorem dL_alike_51 : decode cL_alike 51 = .ok (.if_icmp .ne 7, 3) := by decide +kernel
theorem dL_alike_54 : decode cL_alike 54 = .ok (.iconst 1, 1) := by decide +kernel
theorem dL_alike_55 : decode cL_alike 55 = .ok (.goto 4, 3) := by decide +kernel
theorem dL_alike_58 : decode cL_alike 58 = .ok (.iconst 0, 1) := by decide +kernel
theorem dL_alike_59 : decode cL_alike 59 = .ok (.istore_n 3, 1) := by decide +kernel
theorem dL_alike_60 : decode cL_alike 60 = .ok (.iconst 0, 1) := by decide +kernel
theorem dL_alike_61 : decode cL_alike 61 = .ok (.istore 4, 2) := by decide +kernel
theorem dL_alike_63 : decode cL_alike 63 = .ok (.iload 4, 2) := by decide +kernel
theorem dL_alike_65 : decode cL_alike 65 = .ok (.bipush 80, 2) := by decide +kernel
theorem dL_alike_67 : decode cL_alike 67 = .ok (.if_icmp .ge 118, 3) := by decide +kernel
theorem dL_alike_70 : decode cL_alike 70 = .ok (.iload_n 3, 1) := by decide +kernel
theorem dL_alike_71 : decode cL_alike 71 = .ok (.ifCond .eq 114, 3) := by decide +kernel
theorem dL_alike_74 : decode cL_alike 74 = .ok (.aload_n 0, 1) := by decide +kernel
theorem dL_alike_75 : decode cL_alike 75 = .ok (.iconst 4, 1) := by decide +kernel
theorem dL_alike_76 : decode cL_alike 76 = .ok (.iload 4, 2) := by decide +kernel
theorem dL_alike_78 : decode cL_alike 78 = .ok (.iconst 0, 1) := by decide +kernel
theorem dL_alike_79 : decode cL_alike 79 = .ok (.iconst 0, 1) := by decide +kernel
theorem dL_alike_80 : decode cL_alike 80 = .ok (.invokestatic 169, 3) := by decide +kernel
theorem dL_alike_83 : decode cL_alike 83 = .ok (.aload_n 1, 1) := by decide +kernel
theorem dL_alike_84 : decode cL_alike 84 = .ok (.iconst 4, 1) := by decide +kernel
theorem dL_alike_85 : decode cL_alike 85 = .ok (.iload 4, 2) := by decide +kernel
theorem dL_alike_87 : decode cL_alike 87 = .ok (.iconst 0, 1) := by decide +kernel
theorem dL_alike_88 : decode cL_alike 88 = .ok (.iconst 0, 1) := by decide +kernel
theorem dL_alike_89 : decode cL_alike 89 = .ok (.invokestatic 169, 3) := by decide +kernel
theorem dL_alike_92 : decode cL_alike 92 = .ok (.if_icmp .ne 85, 3) := by decide +kernel
theorem dL_alike_95 : decode cL_alike 95 = .ok (.iload 4, 2) := by decide +kernel
theorem dL_alike_97 : decode cL_alike 97 = .ok (.bipush 40, 2) := by decide +kernel
theorem dL_alike_99 : decode cL_alike 99 = .ok (.if_icmp .gt 74, 3) := by decide +kernel
theorem dL_alike_102 : decode cL_alike 102 = .ok (.aload_n 0, 1) := by decide +kernel
theorem dL_alike_103 : decode cL_alike 103 = .ok (.iconst 2, 1) := by decide +kernel
theorem dL_alike_104 : decode cL_alike 104 = .ok (.iload 4, 2) := by decide +kernel
theorem dL_alike_106 : decode cL_alike 106 = .ok (.iconst 0, 1) := by decide +kernel
theorem dL_alike_107 : decode cL_alike 107 = .ok (.iconst 0, 1) := by decide +kernel
theorem dL_alike_108 : decode cL_alike 108 = .ok (.invokestatic 169, 3) := by decide +kernel
theorem dL_alike_111 : decode cL_alike 111 = .ok (.aload_n 1, 1) := by decide +kernel
theorem dL_alike_112 : decode cL_alike 112 = .ok (.iconst 2, 1) := by decide +kernel
theorem dL_alike_113 : decode cL_alike 113 = .ok (.iload 4, 2) := by decide +kernel
theorem dL_alike_115 : decode cL_alike 115 = .ok (.iconst 0, 1) := by decide +kernel
theorem dL_alike_116 : decode cL_alike 116 = .ok (.iconst 0, 1) := by decide +kernel
theorem dL_alike_117 : decode cL_alike 117 = .ok (.invokestatic 169, 3) := by decide +kernel
theorem dL_alike_120 : decode cL_alike 120 = .ok (.if_icmp .ne 57, 3) := by decide +kernel
theorem dL_alike_123 : decode cL_alike 123 = .ok (.aload_n 0, 1) := by decide +kernel
theorem dL_alike_124 : decode cL_alike 124 = .ok (.iconst 3, 1) := by decide +kernel
theorem dL_alike_125 : decode cL_alike 125 = .ok (.iload 4, 2) := by decide +kernel
theorem dL_alike_127 : decode cL_alike 127 = .ok (.iload_n 2, 1) := by decide +kernel
theorem dL_alike_128 : decode cL_alike 128 = .ok (.bipush 7, 2) := by decide +kernel
theorem dL_alike_130 : decode cL_alike 130 = .ok (.irem, 1) := by decide +kernel
theorem dL_alike_131 : decode cL_alike 131 = .ok (.iconst 0, 1) := by decide +kernel
theorem dL_alike_132 : decode cL_alike 132 = .ok (.invokestatic 169, 3) := by decide +kernel
theorem dL_alike_135 : decode cL_alike 135 = .ok (.aload_n 1, 1) := by decide +kernel
theorem dL_alike_136 : decode cL_alike 136 = .ok (.iconst 3, 1) := by decide +kernel
theorem dL_alike_137 : decode cL_alike 137 = .ok (.iload 4, 2) := by decide +kernel
theorem dL_alike_139 : decode cL_alike 139 = .ok (.iload_n 2, 1) := by decide +kernel
theorem dL_alike_140 : decode cL_alike 140 = .ok (.bipush 7, 2) := by decide +kernel
theorem dL_alike_142 : decode cL_alike 142 = .ok (.irem, 1) := by decide +kernel
theorem dL_alike_143 : decode cL_alike 143 = .ok (.iconst 0, 1) := by decide +kernel
theorem dL_alike_144 : decode cL_alike 144 = .ok (.invokestatic 169, 3) := by decide +kernel
theorem dL_alike_147 : decode cL_alike 147 = .ok (.if_icmp .ne 30, 3) := by decide +kernel
theorem dL_alike_150 : decode cL_alike 150 = .ok (.aload_n 0, 1) := by decide +kernel
theorem dL_alike_151 : decode cL_alike 151 = .ok (.bipush 15, 2) := by decide +kernel
theorem dL_alike_153 : decode cL_alike 153 = .ok (.iload 4, 2) := by decide +kernel
theorem dL_alike_155 : decode cL_alike 155 = .ok (.iconst 0, 1) := by decide +kernel
theorem dL_alike_156 : decode cL_alike 156 = .ok (.iconst 0, 1) := by decide +kernel
theorem dL_alike_157 : decode cL_alike 157 = .ok (.invokestatic 169, 3) := by decide +kernel
theorem dL_alike_160 : decode cL_alike 160 = .ok (.aload_n 1, 1) := by decide +kernel
theorem dL_alike_161 : decode cL_alike 161 = .ok (.bipush 15, 2) := by decide +kernel
theorem dL_alike_163 : decode cL_alike 163 = .ok (.iload 4, 2) := by decide +kernel
theorem dL_alike_165 : decode cL_alike 165 = .ok (.iconst 0, 1) := by decide +kernel
theorem dL_alike_166 : decode cL_alike 166 = .ok (.iconst 0, 1) := by decide +kernel
theorem dL_alike_167 : decode cL_alike 167 = .ok (.invokestatic 169, 3) := by decide +kernel
theorem dL_alike_170 : decode cL_alike 170 = .ok (.if_icmp .ne 7, 3) := by decide +kernel
theorem dL_alike_173 : decode cL_alike 173 = .ok (.iconst 1, 1) := by decide +kernel
theorem dL_alike_174 : decode cL_alike 174 = .ok (.goto 4, 3) := by decide +kernel
theorem dL_alike_177 : decode cL_alike 177 = .ok (.iconst 0, 1) := by decide +kernel
theorem dL_alike_178 : decode cL_alike 178 = .ok (.istore_n 3, 1) := by decide +kernel
theorem dL_alike_179 : decode cL_alike 179 = .ok (.iinc 4 1, 3) := by decide +kernel
theorem dL_alike_182 : decode cL_alike 182 = .ok (.goto (-119), 3) := by decide +kernel
theorem dL_alike_185 : decode cL_alike 185 = .ok (.iload_n 3, 1) := by decide +kernel
theorem dL_alike_186 : decode cL_alike 186 = .ok (.ireturn, 1) := by decide +kernel
set_option maxRecDepth 20000 in
theorem ggL_law_X6_init : GoodIn wsL_law wsX6_init := goodIn_r _ [6, 7, 8, 9, 10, 11, 12, 13, 14, 15, 16, 17, 18, 19, 20, 21, 22, 23, 24, 25, 26, 27, 28, 29, 30, 31, 32, 33, 34, 35, 36, 37, 38, 39, 40, 41, 42, 43, 44, 45, 46, 47, 48, 49, 50, 51, 52, 53, 54, 55, 56, 57, 58, 59, 60, 61, 62, 63, 64, 65, 66, 67, 68, 69, 70, 71, 72, 73, 592, 593, 587, 588, 589, 590, 591, 594, 595, 596, 597, 598, 599, 600, 601, 602, 603, 604, 605, 606, 607, 608, 609, 610, 611, 612] rfl (by decide +kernel)
set_option maxRecDepth 20000 in
theorem gL_law_X6_init : GoodIn wsL_law (wsX6_init) := ggL_law_X6_init
set_option maxRecDepth 20000 in
theorem ggL_law_L_cell : GoodIn wsL_law wsL_cell := goodIn_r _ [77, 78, 79] rfl (by decide +kernel)
set_option maxRecDepth 20000 in
theorem gL_law_L_cell : GoodIn wsL_law (va_wsS RL 191 yL_cell wsL_cell) := goodIn_app (goodIn_r _ [74, 75, 76] rfl (by decide +kernel)) ggL_law_L_cell
set_option maxRecDepth 20000 in
theorem ggL_law_L_call : GoodIn wsL_law wsL_call := goodIn_ca (goodIn_ca (goodIn_ca (goodIn_r _ [82, 83, 84, 76, 85, 86, 87, 88, 89, 90, 91, 92, 2, 93, 94, 95, 96, 97, 13, 98, 12, 99, 100, 101, 102, 103, 104, 31, 105, 106, 107, 108, 109, 110, 111, 17, 22, 26, 112, 113, 114, 115, 116, 117, 118, 119, 120, 121, 122, 123, 124, 125, 126, 127, 128, 129, 130, 131, 132, 133, 134, 135, 136, 137, 138, 139, 140, 141, 142, 143, 144, 145, 146, 147, 148, 149, 45, 16, 46, 47, 36, 48, 49, 50, 51, 52, 53, 54, 55, 56, 57, 58, 59, 60, 61, 37, 150, 21, 151, 152, 153, 154, 25, 155, 156, 73, 157, 158, 159, 160, 161, 162, 163, 164, 165, 166, 167, 168, 169, 170, 171, 172, 173, 174, 175, 176, 177, 178, 179, 180, 181, 182, 183, 184, 185, 186, 187, 188, 189, 190, 191, 192, 193, 194, 195, 38, 39, 40, 41, 42, 43, 196, 197, 198, 199, 200, 201, 202, 203, 204, 205, 206, 207, 208, 209, 210, 211, 212, 213, 214, 215, 216, 217, 218, 219, 220, 221, 222, 223, 224, 225, 226, 227, 228, 229, 230, 231, 232, 233, 234, 235, 236, 237, 238, 239, 240, 241, 242, 243, 244, 245, 246, 247, 248, 249, 250, 251, 252, 253, 254, 255, 256, 257, 258, 259, 260, 261, 262, 263, 264, 265, 266, 267, 268, 269, 270, 271, 272, 273, 274, 275, 276, 277, 278, 279, 280, 281, 282, 283, 284, 285, 286, 287, 288, 289, 290, 291, 292, 293, 294, 295, 296, 297, 298, 299, 300, 301, 302, 303, 304, 305, 306, 307, 308, 309, 310, 311, 312, 313, 314, 315, 316, 317, 318, 319, 320, 321, 322, 323, 324, 325, 326, 327, 328, 329, 330, 331, 332, 333, 334, 335, 336, 337, 338, 339, 340, 341, 342, 343, 344, 345, 346, 347, 348, 349, 350, 351, 352, 353, 354, 355, 356, 357, 358, 359, 360, 361, 362, 66, 363, 364, 365, 366, 367, 368, 369, 370, 371, 372, 373, 374, 375, 376, 377, 378, 379, 380, 381, 382, 383, 384, 385, 386, 387, 388, 389, 390, 391, 392, 393, 394, 395, 396, 397, 398, 399, 400, 401, 402, 403, 404, 405, 406, 407, 408, 409, 410, 411, 412, 413, 414, 415, 416, 417, 418, 419, 420, 421, 422, 423, 424, 425, 426, 427, 428, 429, 430, 431, 432, 433, 434, 435, 436, 437, 438, 439, 440, 441, 442, 443, 444, 445, 446, 447, 448, 449, 450, 451, 452, 453, 18, 454, 455, 456, 457, 458, 459, 460, 461, 462, 463, 464, 465, 466, 467, 468, 469, 470, 471, 472, 473, 474, 475, 476, 477, 478, 479, 480, 481, 482, 483, 484, 485, 486, 487, 488, 489, 490, 491, 492, 493, 494, 495, 496, 497, 498, 499, 500, 501, 71, 502, 503, 504, 505, 506, 507, 508, 509, 510, 511, 512, 513, 514, 515, 587, 588, 589, 590, 591, 592, 593, 594, 595, 596, 597, 598, 599, 600, 601, 602, 603, 604, 605, 606, 607, 608, 609, 610, 611, 612] rfl (by decide +kernel)) (goodIn_sub (fun _ h => List.mem_append_left _ (List.mem_append_left _ (List.mem_append_right _ h))) (by decide +kernel))) (goodIn_sub (fun _ h => List.mem_append_left _ (List.mem_append_right _ h)) (by decide +kernel))) (goodIn_sub (fun _ h => List.mem_append_right _ h) (by decide +kernel))
set_option maxRecDepth 20000 in
theorem gL_law_L_call : GoodIn wsL_law (va_wsS RL 169 yL_call wsL_call) := goodIn_app (goodIn_r _ [80, 81, 76] rfl (by decide +kernel)) ggL_law_L_call
set_option maxRecDepth 20000 in
theorem ggL_law_L_act : GoodIn wsL_law wsL_act := goodIn_ca (goodIn_ca (goodIn_ca (goodIn_r _ [518, 80, 81, 76, 82, 83, 84, 85, 86, 87, 88, 89, 90, 91, 92, 2, 93, 94, 95, 96, 97, 13, 98, 12, 99, 100, 101, 102, 103, 104, 31, 105, 106, 107, 108, 109, 110, 111, 17, 22, 26, 112, 113, 114, 115, 116, 117, 118, 119, 120, 121, 122, 123, 124, 125, 126, 127, 128, 129, 130, 131, 132, 133, 134, 135, 136, 137, 138, 139, 140, 141, 142, 143, 144, 145, 146, 147, 148, 149, 45, 16, 46, 47, 36, 48, 49, 50, 51, 52, 53, 54, 55, 56, 57, 58, 59, 60, 61, 37, 150, 21, 151, 152, 153, 154, 25, 155, 156, 73, 157, 158, 159, 160, 161, 162, 163, 164, 165, 166, 167, 168, 169, 170, 171, 172, 173, 174, 175, 176, 177, 178, 179, 180, 181, 182, 183, 184, 185, 186, 187, 188, 189, 190, 191, 192, 193, 194, 195, 38, 39, 40, 41, 42, 43, 196, 197, 198, 199, 200, 201, 202, 203, 204, 205, 206, 207, 208, 209, 210, 211, 212, 213, 214, 215, 216, 217, 218, 219, 220, 221, 222, 223, 224, 225, 226, 227, 228, 229, 230, 231, 232, 233, 234, 235, 236, 237, 238, 239, 240, 241, 242, 243, 244, 245, 246, 247, 248, 249, 250, 251, 252, 253, 254, 255, 256, 257, 258, 259, 260, 261, 262, 263, 264, 265, 266, 267, 268, 269, 270, 271, 272, 273, 274, 275, 276, 277, 278, 279, 280, 281, 282, 283, 284, 285, 286, 287, 288, 289, 290, 291, 292, 293, 294, 295, 296, 297, 298, 299, 300, 301, 302, 303, 304, 305, 306, 307, 308, 309, 310, 311, 312, 313, 314, 315, 316, 317, 318, 319, 320, 321, 322, 323, 324, 325, 326, 327, 328, 329, 330, 331, 332, 333, 334, 335, 336, 337, 338, 339, 340, 341, 342, 343, 344, 345, 346, 347, 348, 349, 350, 351, 352, 353, 354, 355, 356, 357, 358, 359, 360, 361, 362, 66, 363, 364, 365, 366, 367, 368, 369, 370, 371, 372, 373, 374, 375, 376, 377, 378, 379, 380, 381, 382, 383, 384, 385, 386, 387, 388, 389, 390, 391, 392, 393, 394, 395, 396, 397, 398, 399, 400, 401, 402, 403, 404, 405, 406, 407, 408, 409, 410, 411, 412, 413, 414, 415, 416, 417, 418, 419, 420, 421, 422, 423, 424, 425, 426, 427, 428, 429, 430, 431, 432, 433, 434, 435, 436, 437, 438, 439, 440, 441, 442, 443, 444, 445, 446, 447, 448, 449, 450, 451, 452, 453, 18, 454, 455, 456, 457, 458, 459, 460, 461, 462, 463, 464, 465, 466, 467, 468, 469, 470, 471, 472, 473, 474, 475, 476, 477, 478, 479, 480, 481, 482, 483, 484, 485, 486, 487, 488, 489, 490, 491, 492, 493, 494, 495, 496, 497, 498, 499, 500, 501, 71, 502, 503, 504, 505, 506, 507, 508, 509, 510, 511, 512, 513, 514, 515, 519, 520, 521, 522, 523, 524, 525, 587, 588, 589, 590, 591, 592, 593, 594, 595, 596, 597, 598, 599, 600, 601, 602, 603, 604, 605, 606, 607, 608, 609, 610, 611, 612] rfl (by decide +kernel)) (goodIn_sub (fun _ h => List.mem_append_left _ (List.mem_append_left _ (List.mem_append_right _ h))) (by decide +kernel))) (goodIn_sub (fun _ h => List.mem_append_left _ (List.mem_append_right _ h)) (by decide +kernel))) (goodIn_sub (fun _ h => List.mem_append_right _ h) (by decide +kernel))
set_option maxRecDepth 20000 in
theorem gL_law_L_act : GoodIn wsL_law (va_wsS RL 195 yL_act wsL_act) := goodIn_app (goodIn_r _ [516, 517, 76] rfl (by decide +kernel)) ggL_law_L_act
set_option maxRecDepth 20000 in
theorem ggL_law_L_refuses : GoodIn wsL_law wsL_refuses := goodIn_ca (goodIn_ca (goodIn_ca (goodIn_r _ [528, 88, 304, 529, 89, 80, 81, 76, 82, 83, 84, 85, 86, 87, 90, 91, 92, 2, 93, 94, 95, 96, 97, 13, 98, 12, 99, 100, 101, 102, 103, 104, 31, 105, 106, 107, 108, 109, 110, 111, 17, 22, 26, 112, 113, 114, 115, 116, 117, 118, 119, 120, 121, 122, 123, 124, 125, 126, 127, 128, 129, 130, 131, 132, 133, 134, 135, 136, 137, 138, 139, 140, 141, 142, 143, 144, 145, 146, 147, 148, 149, 45, 16, 46, 47, 36, 48, 49, 50, 51, 52, 53, 54, 55, 56, 57, 58, 59, 60, 61, 37, 150, 21, 151, 152, 153, 154, 25, 155, 156, 73, 157, 158, 159, 160, 161, 162, 163, 164, 165, 166, 167, 168, 169, 170, 171, 172, 173, 174, 175, 176, 177, 178, 179, 180, 181, 182, 183, 184, 185, 186, 187, 188, 189, 190, 191, 192, 193, 194, 195, 38, 39, 40, 41, 42, 43, 196, 197, 198, 199, 200, 201, 202, 203, 204, 205, 206, 207, 208, 209, 210, 211, 212, 213, 214, 215, 216, 217, 218, 219, 220, 221, 222, 223, 224, 225, 226, 227, 228, 229, 230, 231, 232, 233, 234, 235, 236, 237, 238, 239, 240, 241, 242, 243, 244, 245, 246, 247, 248, 249, 250, 251, 252, 253, 254, 255, 256, 257, 258, 259, 260, 261, 262, 263, 264, 265, 266, 267, 268, 269, 270, 271, 272, 273, 274, 275, 276, 277, 278, 279, 280, 281, 282, 283, 284, 285, 286, 287, 288, 289, 290, 291, 292, 293, 294, 295, 296, 297, 298, 299, 300, 301, 302, 303, 305, 306, 307, 308, 309, 310, 311, 312, 313, 314, 315, 316, 317, 318, 319, 320, 321, 322, 323, 324, 325, 326, 327, 328, 329, 330, 331, 332, 333, 334, 335, 336, 337, 338, 339, 340, 341, 342, 343, 344, 345, 346, 347, 348, 349, 350, 351, 352, 353, 354, 355, 356, 357, 358, 359, 360, 361, 362, 66, 363, 364, 365, 366, 367, 368, 369, 370, 371, 372, 373, 374, 375, 376, 377, 378, 379, 380, 381, 382, 383, 384, 385, 386, 387, 388, 389, 390, 391, 392, 393, 394, 395, 396, 397, 398, 399, 400, 401, 402, 403, 404, 405, 406, 407, 408, 409, 410, 411, 412, 413, 414, 415, 416, 417, 418, 419, 420, 421, 422, 423, 424, 425, 426, 427, 428, 429, 430, 431, 432, 433, 434, 435, 436, 437, 438, 439, 440, 441, 442, 443, 444, 445, 446, 447, 448, 449, 450, 451, 452, 453, 18, 454, 455, 456, 457, 458, 459, 460, 461, 462, 463, 464, 465, 466, 467, 468, 469, 470, 471, 472, 473, 474, 475, 476, 477, 478, 479, 480, 481, 482, 483, 484, 485, 486, 487, 488, 489, 490, 491, 492, 493, 494, 495, 496, 497, 498, 499, 500, 501, 71, 502, 503, 504, 505, 506, 507, 508, 509, 510, 511, 512, 513, 514, 515, 519, 520, 521, 522, 523, 524, 525, 530, 531, 532, 533, 534, 535, 536, 537, 538, 539, 540, 541, 542, 543, 544, 545, 546, 547, 548, 549, 550, 551, 552, 553, 554, 555, 556, 557, 558, 559, 560, 561, 562, 563, 564, 565, 587, 588, 589, 590, 591, 592, 593, 594, 595, 596, 597, 598, 599, 600, 601, 602, 603, 604, 605, 606, 607, 608, 609, 610, 611, 612] rfl (by decide +kernel)) (goodIn_sub (fun _ h => List.mem_append_left _ (List.mem_append_left _ (List.mem_append_right _ h))) (by decide +kernel))) (goodIn_sub (fun _ h => List.mem_append_left _ (List.mem_append_right _ h)) (by decide +kernel))) (goodIn_sub (fun _ h => List.mem_append_right _ h) (by decide +kernel))
set_option maxRecDepth 20000 in
theorem gL_law_L_refuses : GoodIn wsL_law (va_wsS RL 199 yL_refuses wsL_refuses) := goodIn_app (goodIn_r _ [526, 527, 76] rfl (by decide +kernel)) ggL_law_L_refuses
set_option maxRecDepth 20000 in
theorem ggL_law_L_alike : GoodIn wsL_law wsL_alike := goodIn_ca (goodIn_ca (goodIn_ca (goodIn_r _ [568, 552, 553, 76, 554, 86, 88, 555, 556, 557, 2, 558, 94, 95, 18, 17, 365, 16, 366, 367, 36, 37, 38, 39, 40, 41, 42, 43, 48, 49, 50, 51, 52, 53, 368, 369, 370, 371, 372, 373, 559, 212, 213, 214, 215, 560, 561, 562, 193, 194, 195, 196, 197, 198, 199, 200, 201, 202, 203, 187, 188, 204, 205, 206, 207, 181, 182, 208, 209, 210, 211, 216, 217, 218, 219, 220, 221, 222, 223, 224, 225, 226, 227, 228, 229, 230, 231, 183, 184, 185, 186, 58, 59, 60, 61, 232, 233, 234, 235, 236, 237, 238, 239, 240, 241, 242, 168, 169, 170, 171, 172, 173, 174, 175, 176, 177, 178, 179, 180, 189, 190, 191, 192, 563, 564, 565, 250, 251, 252, 253, 254, 255, 256, 257, 258, 259, 260, 261, 262, 263, 264, 265, 266, 267, 268, 269, 270, 271, 272, 273, 274, 275, 276, 277, 278, 279, 280, 288, 289, 290, 530, 531, 532, 533, 534, 535, 536, 354, 355, 356, 357, 457, 458, 459, 80, 81, 82, 83, 84, 85, 87, 89, 90, 91, 92, 93, 96, 97, 13, 98, 12, 99, 100, 101, 102, 103, 104, 31, 105, 106, 107, 108, 109, 110, 111, 22, 26, 112, 113, 114, 115, 116, 117, 118, 119, 120, 121, 122, 123, 124, 125, 126, 127, 128, 129, 130, 131, 132, 133, 134, 135, 136, 137, 138, 139, 140, 141, 142, 143, 144, 145, 146, 147, 148, 149, 45, 46, 47, 54, 55, 56, 57, 150, 21, 151, 152, 153, 154, 25, 155, 156, 73, 157, 158, 159, 160, 161, 162, 163, 164, 165, 166, 167, 243, 244, 245, 246, 247, 248, 249, 281, 282, 283, 284, 285, 286, 287, 291, 292, 293, 294, 295, 296, 297, 298, 299, 300, 301, 302, 303, 304, 305, 306, 307, 308, 309, 310, 311, 312, 313, 314, 315, 316, 317, 318, 319, 320, 321, 322, 323, 324, 325, 326, 327, 328, 329, 330, 331, 332, 333, 334, 335, 336, 337, 338, 339, 340, 341, 342, 343, 344, 345, 346, 347, 348, 349, 350, 351, 352, 353, 358, 359, 360, 361, 362, 66, 363, 364, 374, 375, 376, 377, 378, 379, 380, 381, 382, 383, 384, 385, 386, 387, 388, 389, 390, 391, 392, 393, 394, 395, 396, 397, 398, 399, 400, 401, 402, 403, 404, 405, 406, 407, 408, 409, 410, 411, 412, 413, 414, 415, 416, 417, 418, 419, 420, 421, 422, 423, 424, 425, 426, 427, 428, 429, 430, 431, 432, 433, 434, 435, 436, 437, 438, 439, 440, 441, 442, 443, 444, 445, 446, 447, 448, 449, 450, 451, 452, 453, 454, 455, 456, 460, 461, 462, 463, 464, 465, 466, 467, 468, 469, 470, 471, 472, 473, 474, 475, 476, 477, 478, 479, 480, 481, 482, 483, 484, 485, 486, 487, 488, 489, 490, 491, 492, 493, 494, 495, 496, 497, 498, 499, 500, 501, 71, 502, 503, 504, 505, 506, 507, 508, 509, 510, 511, 512, 513, 514, 515, 587, 588, 589, 590, 591, 594, 595, 596, 597, 598, 599, 600, 601, 602, 603, 604, 605, 606, 607, 592, 593, 608, 609, 610, 611, 612] rfl (by decide +kernel)) (goodIn_sub (fun _ h => List.mem_append_left _ (List.mem_append_left _ (List.mem_append_right _ h))) (by decide +kernel))) (goodIn_sub (fun _ h => List.mem_append_left _ (List.mem_append_right _ h)) (by decide +kernel))) (goodIn_sub (fun _ h => List.mem_append_right _ h) (by decide +kernel))
set_option maxRecDepth 20000 in
theorem gL_law_L_alike : GoodIn wsL_law (va_wsS RL 203 yL_alike wsL_alike) := goodIn_app (goodIn_r _ [566, 567, 76] rfl (by decide +kernel)) ggL_law_L_alike
set_option maxRecDepth 20000 in
theorem ggL_law_L_holds : GoodIn wsL_law wsL_holds := goodIn_ca (goodIn_ca (goodIn_ca (goodIn_r _ [571, 80, 81, 76, 82, 83, 84, 85, 86, 87, 88, 89, 90, 91, 92, 2, 93, 94, 95, 96, 97, 13, 98, 12, 99, 100, 101, 102, 103, 104, 31, 105, 106, 107, 108, 109, 110, 111, 17, 22, 26, 112, 113, 114, 115, 116, 117, 118, 119, 120, 121, 122, 123, 124, 125, 126, 127, 128, 129, 130, 131, 132, 133, 134, 135, 136, 137, 138, 139, 140, 141, 142, 143, 144, 145, 146, 147, 148, 149, 45, 16, 46, 47, 36, 48, 49, 50, 51, 52, 53, 54, 55, 56, 57, 58, 59, 60, 61, 37, 150, 21, 151, 152, 153, 154, 25, 155, 156, 73, 157, 158, 159, 160, 161, 162, 163, 164, 165, 166, 167, 168, 169, 170, 171, 172, 173, 174, 175, 176, 177, 178, 179, 180, 181, 182, 183, 184, 185, 186, 187, 188, 189, 190, 191, 192, 193, 194, 195, 38, 39, 40, 41, 42, 43, 196, 197, 198, 199, 200, 201, 202, 203, 204, 205, 206, 207, 208, 209, 210, 211, 212, 213, 214, 215, 216, 217, 218, 219, 220, 221, 222, 223, 224, 225, 226, 227, 228, 229, 230, 231, 232, 233, 234, 235, 236, 237, 238, 239, 240, 241, 242, 243, 244, 245, 246, 247, 248, 249, 250, 251, 252, 253, 254, 255, 256, 257, 258, 259, 260, 261, 262, 263, 264, 265, 266, 267, 268, 269, 270, 271, 272, 273, 274, 275, 276, 277, 278, 279, 280, 281, 282, 283, 284, 285, 286, 287, 288, 289, 290, 291, 292, 293, 294, 295, 296, 297, 298, 299, 300, 301, 302, 303, 304, 305, 306, 307, 308, 309, 310, 311, 312, 313, 314, 315, 316, 317, 318, 319, 320, 321, 322, 323, 324, 325, 326, 327, 328, 329, 330, 331, 332, 333, 334, 335, 336, 337, 338, 339, 340, 341, 342, 343, 344, 345, 346, 347, 348, 349, 350, 351, 352, 353, 354, 355, 356, 357, 358, 359, 360, 361, 362, 66, 363, 364, 365, 366, 367, 368, 369, 370, 371, 372, 373, 374, 375, 376, 377, 378, 379, 380, 381, 382, 383, 384, 385, 386, 387, 388, 389, 390, 391, 392, 393, 394, 395, 396, 397, 398, 399, 400, 401, 402, 403, 404, 405, 406, 407, 408, 409, 410, 411, 412, 413, 414, 415, 416, 417, 418, 419, 420, 421, 422, 423, 424, 425, 426, 427, 428, 429, 430, 431, 432, 433, 434, 435, 436, 437, 438, 439, 440, 441, 442, 443, 444, 445, 446, 447, 448, 449, 450, 451, 452, 453, 18, 454, 455, 456, 457, 458, 459, 460, 461, 462, 463, 464, 465, 466, 467, 468, 469, 470, 471, 472, 473, 474, 475, 476, 477, 478, 479, 480, 481, 482, 483, 484, 485, 486, 487, 488, 489, 490, 491, 492, 493, 494, 495, 496, 497, 498, 499, 500, 501, 71, 502, 503, 504, 505, 506, 507, 508, 509, 510, 511, 512, 513, 514, 515, 587, 588, 589, 590, 591, 592, 593, 594, 595, 596, 597, 598, 599, 600, 601, 602, 603, 604, 605, 606, 607, 608, 609, 610, 611, 612] rfl (by decide +kernel)) (goodIn_sub (fun _ h => List.mem_append_left _ (List.mem_append_left _ (List.mem_append_right _ h))) (by decide +kernel))) (goodIn_sub (fun _ h => List.mem_append_left _ (List.mem_append_right _ h)) (by decide +kernel))) (goodIn_sub (fun _ h => List.mem_append_right _ h) (by decide +kernel))
set_option maxRecDepth 20000 in
theorem gL_law_L_holds : GoodIn wsL_law (va_wsS RL 207 yL_holds wsL_holds) := goodIn_app (goodIn_r _ [569, 570, 76] rfl (by decide +kernel)) ggL_law_L_holds
set_option maxRecDepth 20000 in
theorem ggL_law_L_comes : GoodIn wsL_law wsL_comes := goodIn_ca (goodIn_ca (goodIn_ca (goodIn_r _ [574, 80, 81, 76, 82, 83, 84, 85, 86, 87, 88, 89, 90, 91, 92, 2, 93, 94, 95, 96, 97, 13, 98, 12, 99, 100, 101, 102, 103, 104, 31, 105, 106, 107, 108, 109, 110, 111, 17, 22, 26, 112, 113, 114, 115, 116, 117, 118, 119, 120, 121, 122, 123, 124, 125, 126, 127, 128, 129, 130, 131, 132, 133, 134, 135, 136, 137, 138, 139, 140, 141, 142, 143, 144, 145, 146, 147, 148, 149, 45, 16, 46, 47, 36, 48, 49, 50, 51, 52, 53, 54, 55, 56, 57, 58, 59, 60, 61, 37, 150, 21, 151, 152, 153, 154, 25, 155, 156, 73, 157, 158, 159, 160, 161, 162, 163, 164, 165, 166, 167, 168, 169, 170, 171, 172, 173, 174, 175, 176, 177, 178, 179, 180, 181, 182, 183, 184, 185, 186, 187, 188, 189, 190, 191, 192, 193, 194, 195, 38, 39, 40, 41, 42, 43, 196, 197, 198, 199, 200, 201, 202, 203, 204, 205, 206, 207, 208, 209, 210, 211, 212, 213, 214, 215, 216, 217, 218, 219, 220, 221, 222, 223, 224, 225, 226, 227, 228, 229, 230, 231, 232, 233, 234, 235, 236, 237, 238, 239, 240, 241, 242, 243, 244, 245, 246, 247, 248, 249, 250, 251, 252, 253, 254, 255, 256, 257, 258, 259, 260, 261, 262, 263, 264, 265, 266, 267, 268, 269, 270, 271, 272, 273, 274, 275, 276, 277, 278, 279, 280, 281, 282, 283, 284, 285, 286, 287, 288, 289, 290, 291, 292, 293, 294, 295, 296, 297, 298, 299, 300, 301, 302, 303, 304, 305, 306, 307, 308, 309, 310, 311, 312, 313, 314, 315, 316, 317, 318, 319, 320, 321, 322, 323, 324, 325, 326, 327, 328, 329, 330, 331, 332, 333, 334, 335, 336, 337, 338, 339, 340, 341, 342, 343, 344, 345, 346, 347, 348, 349, 350, 351, 352, 353, 354, 355, 356, 357, 358, 359, 360, 361, 362, 66, 363, 364, 365, 366, 367, 368, 369, 370, 371, 372, 373, 374, 375, 376, 377, 378, 379, 380, 381, 382, 383, 384, 385, 386, 387, 388, 389, 390, 391, 392, 393, 394, 395, 396, 397, 398, 399, 400, 401, 402, 403, 404, 405, 406, 407, 408, 409, 410, 411, 412, 413, 414, 415, 416, 417, 418, 419, 420, 421, 422, 423, 424, 425, 426, 427, 428, 429, 430, 431, 432, 433, 434, 435, 436, 437, 438, 439, 440, 441, 442, 443, 444, 445, 446, 447, 448, 449, 450, 451, 452, 453, 18, 454, 455, 456, 457, 458, 459, 460, 461, 462, 463, 464, 465, 466, 467, 468, 469, 470, 471, 472, 473, 474, 475, 476, 477, 478, 479, 480, 481, 482, 483, 484, 485, 486, 487, 488, 489, 490, 491, 492, 493, 494, 495, 496, 497, 498, 499, 500, 501, 71, 502, 503, 504, 505, 506, 507, 508, 509, 510, 511, 512, 513, 514, 515, 575, 576, 577, 578, 579, 580, 581, 582, 583, 587, 588, 589, 590, 591, 592, 593, 594, 595, 596, 597, 598, 599, 600, 601, 602, 603, 604, 605, 606, 607, 608, 609, 610, 611, 612] rfl (by decide +kernel)) (goodIn_sub (fun _ h => List.mem_append_left _ (List.mem_append_left _ (List.mem_append_right _ h))) (by decide +kernel))) (goodIn_sub (fun _ h => List.mem_append_left _ (List.mem_append_right _ h)) (by decide +kernel))) (goodIn_sub (fun _ h => List.mem_append_right _ h) (by decide +kernel))
set_option maxRecDepth 20000 in
theorem gL_law_L_comes : GoodIn wsL_law (va_wsS RL 211 yL_comes wsL_comes) := goodIn_app (goodIn_r _ [572, 573, 76] rfl (by decide +kernel)) ggL_law_L_comes
set_option maxRecDepth 20000 in
theorem ggL_law_L_moves : GoodIn wsL_law wsL_moves := goodIn_ca (goodIn_ca (goodIn_ca (goodIn_r _ [586, 89, 80, 81, 76, 82, 83, 84, 85, 86, 87, 88, 90, 91, 92, 2, 93, 94, 95, 96, 97, 13, 98, 12, 99, 100, 101, 102, 103, 104, 31, 105, 106, 107, 108, 109, 110, 111, 17, 22, 26, 112, 113, 114, 115, 116, 117, 118, 119, 120, 121, 122, 123, 124, 125, 126, 127, 128, 129, 130, 131, 132, 133, 134, 135, 136, 137, 138, 139, 140, 141, 142, 143, 144, 145, 146, 147, 148, 149, 45, 16, 46, 47, 36, 48, 49, 50, 51, 52, 53, 54, 55, 56, 57, 58, 59, 60, 61, 37, 150, 21, 151, 152, 153, 154, 25, 155, 156, 73, 157, 158, 159, 160, 161, 162, 163, 164, 165, 166, 167, 168, 169, 170, 171, 172, 173, 174, 175, 176, 177, 178, 179, 180, 181, 182, 183, 184, 185, 186, 187, 188, 189, 190, 191, 192, 193, 194, 195, 38, 39, 40, 41, 42, 43, 196, 197, 198, 199, 200, 201, 202, 203, 204, 205, 206, 207, 208, 209, 210, 211, 212, 213, 214, 215, 216, 217, 218, 219, 220, 221, 222, 223, 224, 225, 226, 227, 228, 229, 230, 231, 232, 233, 234, 235, 236, 237, 238, 239, 240, 241, 242, 243, 244, 245, 246, 247, 248, 249, 250, 251, 252, 253, 254, 255, 256, 257, 258, 259, 260, 261, 262, 263, 264, 265, 266, 267, 268, 269, 270, 271, 272, 273, 274, 275, 276, 277, 278, 279, 280, 281, 282, 283, 284, 285, 286, 287, 288, 289, 290, 291, 292, 293, 294, 295, 296, 297, 298, 299, 300, 301, 302, 303, 304, 305, 306, 307, 308, 309, 310, 311, 312, 313, 314, 315, 316, 317, 318, 319, 320, 321, 322, 323, 324, 325, 326, 327, 328, 329, 330, 331, 332, 333, 334, 335, 336, 337, 338, 339, 340, 341, 342, 343, 344, 345, 346, 347, 348, 349, 350, 351, 352, 353, 354, 355, 356, 357, 358, 359, 360, 361, 362, 66, 363, 364, 365, 366, 367, 368, 369, 370, 371, 372, 373, 374, 375, 376, 377, 378, 379, 380, 381, 382, 383, 384, 385, 386, 387, 388, 389, 390, 391, 392, 393, 394, 395, 396, 397, 398, 399, 400, 401, 402, 403, 404, 405, 406, 407, 408, 409, 410, 411, 412, 413, 414, 415, 416, 417, 418, 419, 420, 421, 422, 423, 424, 425, 426, 427, 428, 429, 430, 431, 432, 433, 434, 435, 436, 437, 438, 439, 440, 441, 442, 443, 444, 445, 446, 447, 448, 449, 450, 451, 452, 453, 18, 454, 455, 456, 457, 458, 459, 460, 461, 462, 463, 464, 465, 466, 467, 468, 469, 470, 471, 472, 473, 474, 475, 476, 477, 478, 479, 480, 481, 482, 483, 484, 485, 486, 487, 488, 489, 490, 491, 492, 493, 494, 495, 496, 497, 498, 499, 500, 501, 71, 502, 503, 504, 505, 506, 507, 508, 509, 510, 511, 512, 513, 514, 515, 575, 576, 577, 578, 579, 580, 587, 588, 589, 590, 591, 592, 593, 594, 595, 596, 597, 598, 599, 600, 601, 602, 603, 604, 605, 606, 607, 608, 609, 610, 611, 612] rfl (by decide +kernel)) (goodIn_sub (fun _ h => List.mem_append_left _ (List.mem_append_left _ (List.mem_append_right _ h))) (by decide +kernel))) (goodIn_sub (fun _ h => List.mem_append_left _ (List.mem_append_right _ h)) (by decide +kernel))) (goodIn_sub (fun _ h => List.mem_append_right _ h) (by decide +kernel))
set_option maxRecDepth 20000 in
theorem gL_law_L_moves : GoodIn wsL_law (va_wsS RL 214 yL_moves wsL_moves) := goodIn_app (goodIn_r _ [584, 585, 76] rfl (by decide +kernel)) ggL_law_L_moves
theorem dL_law_0 : decode cL_law 0 = .ok (.new 8, 3) := by decide +kernel
theorem dL_law_3 : decode cL_law 3 = .ok (.dup, 1) := by decide +kernel
theorem dL_law_4 : decode cL_law 4 = .ok (.invokespecial 190, 3) := by decide +kernel
theorem dL_law_7 : decode cL_law 7 = .ok (.astore_n 1, 1) := by decide +kernel
theorem dL_law_8 : decode cL_law 8 = .ok (.new 8, 3) := by decide +kernel
theorem dL_law_11 : decode cL_law 11 = .ok (.dup, 1) := by decide +kernel
theorem dL_law_12 : decode cL_law 12 = .ok (.invokespecial 190, 3) := by decide +kernel
theorem dL_law_15 : decode cL_law 15 = .ok (.astore_n 2, 1) := by decide +kernel
theorem dL_law_16 : decode cL_law 16 = .ok (.bipush 12, 2) := by decide +kernel
theorem dL_law_18 : decode cL_law 18 = .ok (.aload_n 0, 1) := by decide +kernel
theorem dL_law_19 : decode cL_law 19 = .ok (.iconst 0, 1) := by decide +kernel
theorem dL_law_20 : decode cL_law 20 = .ok (.invokestatic 191, 3) := by decide +kernel
theorem dL_law_23 : decode cL_law 23 = .ok (.bipush 21, 2) := by decide +kernel
theorem dL_law_25 : decode cL_law 25 = .ok (.irem, 1) := by decide +kernel
theorem dL_law_26 : decode cL_law 26 = .ok (.iadd, 1) := by decide +kernel
theorem dL_law_27 : decode cL_law 27 = .ok (.istore_n 3, 1) := by decide +kernel
theorem dL_law_28 : decode cL_law 28 = .ok (.aload_n 0, 1) := by decide +kernel
theorem dL_law_29 : decode cL_law 29 = .ok (.iconst 1, 1) := by decide +kernel
theorem dL_law_30 : decode cL_law 30 = .ok (.invokestatic 191, 3) := by decide +kernel
theorem dL_law_33 : decode cL_law 33 = .ok (.istore 4, 2) := by decide +kernel
theorem dL_law_35 : decode cL_law 35 = .ok (.aload_n 1, 1) := by decide +kernel
theorem dL_law_36 : decode cL_law 36 = .ok (.bipush 7, 2) := by decide +kernel
theorem dL_law_38 : decode cL_law 38 = .ok (.iconst 2, 1) := by decide +kernel
theorem dL_law_39 : decode cL_law 39 = .ok (.iload 4, 2) := by decide +kernel
theorem dL_law_41 : decode cL_law 41 = .ok (.bipush 7, 2) := by decide +kernel
theorem dL_law_43 : decode cL_law 43 = .ok (.irem, 1) := by decide +kernel
theorem dL_law_44 : decode cL_law 44 = .ok (.iadd, 1) := by decide +kernel
theorem dL_law_45 : decode cL_law 45 = .ok (.iconst 1, 1) := by decide +kernel
theorem dL_law_46 : decode cL_law 46 = .ok (.iload 4, 2) := by decide +kernel
theorem dL_law_48 : decode cL_law 48 = .ok (.bipush 7, 2) := by decide +kernel
theorem dL_law_50 : decode cL_law 50 = .ok (.idiv, 1) := by decide +kernel
theorem dL_law_51 : decode cL_law 51 = .ok (.bipush 99, 2) := by decide +kernel
theorem dL_law_53 : decode cL_law 53 = .ok (.irem, 1) := by decide +kernel
theorem dL_law_54 : decode cL_law 54 = .ok (.iadd, 1) := by decide +kernel
theorem dL_law_55 : decode cL_law 55 = .ok (.iconst 0, 1) := by decide +kernel
theorem dL_law_56 : decode cL_law 56 = .ok (.invokestatic 169, 3) := by decide +kernel
theorem dL_law_59 : decode cL_law 59 = .ok (.ifCond .ne 100, 3) := by decide +kernel
theorem dL_law_62 : decode cL_law 62 = .ok (.aload_n 2, 1) := by decide +kernel
theorem dL_law_63 : decode cL_law 63 = .ok (.bipush 7, 2) := by decide +kernel
theorem dL_law_65 : decode cL_law 65 = .ok (.iconst 2, 1) := by decide +kernel
theorem dL_law_66 : decode cL_law 66 = .ok (.iload 4, 2) := by decide +kernel
theorem dL_law_68 : decode cL_law 68 = .ok (.bipush 7, 2) := by decide +kernel
theorem dL_law_70 : decode cL_law 70 = .ok (.irem, 1) := by decide +kernel
theorem dL_law_71 : decode cL_law 71 = .ok (.iadd, 1) := by decide +kernel
theorem dL_law_72 : decode cL_law 72 = .ok (.iconst 1, 1) := by decide +kernel
theorem dL_law_73 : decode cL_law 73 = .ok (.iload 4, 2) := by decide +kernel
theorem dL_law_75 : decode cL_law 75 = .ok (.bipush 7, 2) := by decide +kernel
theorem dL_law_77 : decode cL_law 77 = .ok (.idiv, 1) := by decide +kernel
theorem dL_law_78 : decode cL_law 78 = .ok (.bipush 99, 2) := by decide +kernel
theorem dL_law_80 : decode cL_law 80 = .ok (.irem, 1) := by decide +kernel
theorem dL_law_81 : decode cL_law 81 = .ok (.iadd, 1) := by decide +kernel
theorem dL_law_82 : decode cL_law 82 = .ok (.iconst 0, 1) := by decide +kernel
theorem dL_law_83 : decode cL_law 83 = .ok (.invokestatic 169, 3) := by decide +kernel
theorem dL_law_86 : decode cL_law 86 = .ok (.ifCond .ne 73, 3) := by decide +kernel
theorem dL_law_89 : decode cL_law 89 = .ok (.aload_n 1, 1) := by decide +kernel
theorem dL_law_90 : decode cL_law 90 = .ok (.bipush 7, 2) := by decide +kernel
theorem dL_law_92 : decode cL_law 92 = .ok (.iconst 2, 1) := by decide +kernel
theorem dL_law_93 : decode cL_law 93 = .ok (.iload 4, 2) := by decide +kernel
theorem dL_law_95 : decode cL_law 95 = .ok (.sipush 700, 3) := by decide +kernel
theorem dL_law_98 : decode cL_law 98 = .ok (.idiv, 1) := by decide +kernel
theorem dL_law_99 : decode cL_law 99 = .ok (.bipush 7, 2) := by decide +kernel
theorem dL_law_101 : decode cL_law 101 = .ok (.irem, 1) := by decide +kernel
theorem dL_law_102 : decode cL_law 102 = .ok (.iadd, 1) := by decide +kernel
theorem dL_law_103 : decode cL_law 103 = .ok (.iconst 1, 1) := by decide +kernel
theorem dL_law_104 : decode cL_law 104 = .ok (.iload 4, 2) := by decide +kernel
theorem dL_law_106 : decode cL_law 106 = .ok (.sipush 5000, 3) := by decide +kernel
theorem dL_law_109 : decode cL_law 109 = .ok (.idiv, 1) := by decide +kernel
theorem dL_law_110 : decode cL_law 110 = .ok (.bipush 99, 2) := by decide +kernel
theorem dL_law_112 : decode cL_law 112 = .ok (.irem, 1) := by decide +kernel
theorem dL_law_113 : decode cL_law 113 = .ok (.iadd, 1) := by decide +kernel
theorem dL_law_114 : decode cL_law 114 = .ok (.iconst 0, 1) := by decide +kernel
theorem dL_law_115 : decode cL_law 115 = .ok (.invokestatic 169, 3) := by decide +kernel
theorem dL_law_118 : decode cL_law 118 = .ok (.iconst 1, 1) := by decide +kernel
theorem dL_law_119 : decode cL_law 119 = .ok (.if_icmp .ne 40, 3) := by decide +kernel
theorem dL_law_122 : decode cL_law 122 = .ok (.aload_n 2, 1) := by decide +kernel
theorem dL_law_123 : decode cL_law 123 = .ok (.bipush 7, 2) := by decide +kernel
theorem dL_law_125 : decode cL_law 125 = .ok (.iconst 2, 1) := by decide +kernel
theorem dL_law_126 : decode cL_law 126 = .ok (.iload 4, 2) := by decide +kernel
theorem dL_law_128 : decode cL_law 128 = .ok (.sipush 700, 3) := by decide +kernel
theorem dL_law_131 : decode cL_law 131 = .ok (.idiv, 1) := by decide +kernel
theorem dL_law_132 : decode cL_law 132 = .ok (.bipush 7, 2) := by decide +kernel
theorem dL_law_134 : decode cL_law 134 = .ok (.irem, 1) := by decide +kernel
theorem dL_law_135 : decode cL_law 135 = .ok (.iadd, 1) := by decide +kernel
theorem dL_law_136 : decode cL_law 136 = .ok (.iconst 1, 1) := by decide +kernel
theorem dL_law_137 : decode cL_law 137 = .ok (.iload 4, 2) := by decide +kernel
theorem dL_law_139 : decode cL_law 139 = .ok (.sipush 5000, 3) := by decide +kernel
theorem dL_law_142 : decode cL_law 142 = .ok (.idiv, 1) := by decide +kernel
theorem dL_law_143 : decode cL_law 143 = .ok (.bipush 99, 2) := by decide +kernel
theorem dL_law_145 : decode cL_law 145 = .ok (.irem, 1) := by decide +kernel
theorem dL_law_146 : decode cL_law 146 = .ok (.iadd, 1) := by decide +kernel
theorem dL_law_147 : decode cL_law 147 = .ok (.iconst 0, 1) := by decide +kernel
theorem dL_law_148 : decode cL_law 148 = .ok (.invokestatic 169, 3) := by decide +kernel
theorem dL_law_151 : decode cL_law 151 = .ok (.iconst 1, 1) := by decide +kernel
theorem dL_law_152 : decode cL_law 152 = .ok (.if_icmp .ne 7, 3) := by decide +kernel
theorem dL_law_155 : decode cL_law 155 = .ok (.iconst 1, 1) := by decide +kernel
theorem dL_law_156 : decode cL_law 156 = .ok (.goto 4, 3) := by decide +kernel
theorem dL_law_159 : decode cL_law 159 = .ok (.iconst 0, 1) := by decide +kernel
theorem dL_law_160 : decode cL_law 160 = .ok (.istore 5, 2) := by decide +kernel
theorem dL_law_162 : decode cL_law 162 = .ok (.iconst 0, 1) := by decide +kernel
theorem dL_law_163 : decode cL_law 163 = .ok (.istore 6, 2) := by decide +kernel
theorem dL_law_165 : decode cL_law 165 = .ok (.iload 6, 2) := by decide +kernel
theorem dL_law_167 : decode cL_law 167 = .ok (.iload_n 3, 1) := by decide +kernel
theorem dL_law_168 : decode cL_law 168 = .ok (.if_icmp .ge 139, 3) := by decide +kernel
theorem dL_law_171 : decode cL_law 171 = .ok (.iload 5, 2) := by decide +kernel
theorem dL_law_173 : decode cL_law 173 = .ok (.ifCond .eq 134, 3) := by decide +kernel
theorem dL_law_176 : decode cL_law 176 = .ok (.aload_n 0, 1) := by decide +kernel
theorem dL_law_177 : decode cL_law 177 = .ok (.iconst 2, 1) := by decide +kernel
theorem dL_law_178 : decode cL_law 178 = .ok (.iload 6, 2) := by decide +kernel
theorem dL_law_180 : decode cL_law 180 = .ok (.iadd, 1) := by decide +kernel
theorem dL_law_181 : decode cL_law 181 = .ok (.invokestatic 191, 3) := by decide +kernel
theorem dL_law_184 : decode cL_law 184 = .ok (.istore 7, 2) := by decide +kernel
theorem dL_law_186 : decode cL_law 186 = .ok (.aload_n 1, 1) := by decide +kernel
theorem dL_law_187 : decode cL_law 187 = .ok (.iload 7, 2) := by decide +kernel
theorem dL_law_189 : decode cL_law 189 = .ok (.invokestatic 195, 3) := by decide +kernel
theorem dL_law_192 : decode cL_law 192 = .ok (.istore 8, 2) := by decide +kernel
theorem dL_law_194 : decode cL_law 194 = .ok (.aload_n 2, 1) := by decide +kernel
theorem dL_law_195 : decode cL_law 195 = .ok (.iload 7, 2) := by decide +kernel
theorem dL_law_197 : decode cL_law 197 = .ok (.ldc 198, 2) := by decide +kernel
theorem dL_law_199 : decode cL_law 199 = .ok (.irem, 1) := by decide +kernel
theorem dL_law_200 : decode cL_law 200 = .ok (.invokestatic 199, 3) := by decide +kernel
theorem dL_law_203 : decode cL_law 203 = .ok (.ifCond .eq 95, 3) := by decide +kernel
theorem dL_law_206 : decode cL_law 206 = .ok (.aload_n 2, 1) := by decide +kernel
theorem dL_law_207 : decode cL_law 207 = .ok (.iload 7, 2) := by decide +kernel
theorem dL_law_209 : decode cL_law 209 = .ok (.invokestatic 195, 3) := by decide +kernel
theorem dL_law_212 : decode cL_law 212 = .ok (.iload 8, 2) := by decide +kernel
theorem dL_law_214 : decode cL_law 214 = .ok (.if_icmp .ne 84, 3) := by decide +kernel
theorem dL_law_217 : decode cL_law 217 = .ok (.aload_n 2, 1) := by decide +kernel
theorem dL_law_218 : decode cL_law 218 = .ok (.iload 7, 2) := by decide +kernel
theorem dL_law_220 : decode cL_law 220 = .ok (.sipush 1000, 3) := by decide +kernel
theorem dL_law_223 : decode cL_law 223 = .ok (.irem, 1) := by decide +kernel
theorem dL_law_224 : decode cL_law 224 = .ok (.invokestatic 199, 3) := by decide +kernel
theorem dL_law_227 : decode cL_law 227 = .ok (.ifCond .eq 71, 3) := by decide +kernel
theorem dL_law_230 : decode cL_law 230 = .ok (.aload_n 1, 1) := by decide +kernel
theorem dL_law_231 : decode cL_law 231 = .ok (.aload_n 2, 1) := by decide +kernel
theorem dL_law_232 : decode cL_law 232 = .ok (.iload 7, 2) := by decide +kernel
theorem dL_law_234 : decode cL_law 234 = .ok (.sipush 5000, 3) := by decide +kernel
theorem dL_law_237 : decode cL_law 237 = .ok (.irem, 1) := by decide +kernel
theorem dL_law_238 : decode cL_law 238 = .ok (.invokestatic 203, 3) := by decide +kernel
theorem dL_law_241 : decode cL_law 241 = .ok (.ifCond .eq 57, 3) := by decide +kernel
theorem dL_law_244 : decode cL_law 244 = .ok (.iload 6, 2) := by decide +kernel
theorem dL_law_246 : decode cL_law 246 = .ok (.iconst 2, 1) := by decide +kernel
theorem dL_law_247 : decode cL_law 247 = .ok (.irem, 1) := by decide +kernel
theorem dL_law_248 : decode cL_law 248 = .ok (.ifCond .ne 13, 3) := by decide +kernel
theorem dL_law_251 : decode cL_law 251 = .ok (.aload_n 1, 1) := by decide +kernel
theorem dL_law_252 : decode cL_law 252 = .ok (.invokestatic 207, 3) := by decide +kernel
theorem dL_law_255 : decode cL_law 255 = .ok (.ifCond .eq 43, 3) := by decide +kernel
theorem dL_law_258 : decode cL_law 258 = .ok (.goto 10, 3) := by decide +kernel
theorem dL_law_261 : decode cL_law 261 = .ok (.aload_n 2, 1) := by decide +kernel
theorem dL_law_262 : decode cL_law 262 = .ok (.invokestatic 207, 3) := by decide +kernel
theorem dL_law_265 : decode cL_law 265 = .ok (.ifCond .eq 33, 3) := by decide +kernel
theorem dL_law_268 : decode cL_law 268 = .ok (.aload_n 1, 1) := by decide +kernel
theorem dL_law_269 : decode cL_law 269 = .ok (.aload_n 2, 1) := by decide +kernel
theorem dL_law_270 : decode cL_law 270 = .ok (.iload 7, 2) := by decide +kernel
theorem dL_law_272 : decode cL_law 272 = .ok (.bipush 7, 2) := by decide +kernel
theorem dL_law_274 : decode cL_law 274 = .ok (.idiv, 1) := by decide +kernel
theorem dL_law_275 : decode cL_law 275 = .ok (.invokestatic 211, 3) := by decide +kernel
theorem dL_law_278 : decode cL_law 278 = .ok (.ifCond .eq 20, 3) := by decide +kernel
theorem dL_law_281 : decode cL_law 281 = .ok (.aload_n 1, 1) := by decide +kernel
theorem dL_law_282 : decode cL_law 282 = .ok (.aload_n 2, 1) := by decide +kernel
theorem dL_law_283 : decode cL_law 283 = .ok (.iload 7, 2) := by decide +kernel
theorem dL_law_285 : decode cL_law 285 = .ok (.bipush 11, 2) := by decide +kernel
theorem dL_law_287 : decode cL_law 287 = .ok (.idiv, 1) := by decide +kernel
theorem dL_law_288 : decode cL_law 288 = .ok (.invokestatic 214, 3) := by decide +kernel
theorem dL_law_291 : decode cL_law 291 = .ok (.ifCond .eq 7, 3) := by decide +kernel
theorem dL_law_294 : decode cL_law 294 = .ok (.iconst 1, 1) := by decide +kernel
theorem dL_law_295 : decode cL_law 295 = .ok (.goto 4, 3) := by decide +kernel
theorem dL_law_298 : decode cL_law 298 = .ok (.iconst 0, 1) := by decide +kernel
theorem dL_law_299 : decode cL_law 299 = .ok (.istore 5, 2) := by decide +kernel
theorem dL_law_301 : decode cL_law 301 = .ok (.iinc 6 1, 3) := by decide +kernel
theorem dL_law_304 : decode cL_law 304 = .ok (.goto (-139), 3) := by decide +kernel
theorem dL_law_307 : decode cL_law 307 = .ok (.iload 5, 2) := by decide +kernel
theorem dL_law_309 : decode cL_law 309 = .ok (.ireturn, 1) := by decide +kernel
set_option maxRecDepth 20000 in
theorem ggL_waits_L_call : GoodIn wsL_waits wsL_call := goodIn_ca (goodIn_ca (goodIn_ca (goodIn_r _ [4, 5, 6, 3, 7, 8, 9, 10, 11, 12, 13, 14, 15, 16, 17, 18, 19, 20, 21, 22, 23, 24, 25, 26, 27, 28, 29, 30, 31, 32, 33, 34, 35, 36, 37, 38, 39, 40, 41, 42, 43, 44, 45, 46, 47, 48, 49, 50, 51, 52, 53, 54, 55, 56, 57, 58, 59, 60, 61, 62, 63, 64, 65, 66, 67, 68, 69, 70, 71, 72, 73, 74, 75, 76, 77, 78, 79, 80, 81, 82, 83, 84, 85, 86, 87, 88, 89, 90, 91, 92, 93, 94, 95, 96, 97, 98, 99, 100, 101, 102, 103, 104, 105, 106, 107, 108, 109, 110, 111, 112, 113, 114, 115, 116, 117, 118, 119, 120, 121, 122, 123, 124, 125, 126, 127, 128, 129, 130, 131, 132, 133, 134, 135, 136, 137, 138, 139, 140, 141, 142, 143, 144, 145, 146, 147, 148, 149, 150, 151, 152, 153, 154, 155, 156, 157, 158, 159, 160, 161, 162, 163, 164, 165, 166, 167, 168, 169, 170, 171, 172, 173, 174, 175, 176, 177, 178, 179, 180, 181, 182, 183, 184, 185, 186, 187, 188, 189, 190, 191, 192, 193, 194, 195, 196, 197, 198, 199, 200, 201, 202, 203, 204, 205, 206, 207, 208, 209, 210, 211, 212, 213, 214, 215, 216, 217, 218, 219, 220, 221, 222, 223, 224, 225, 226, 227, 228, 229, 230, 231, 232, 233, 234, 235, 236, 237, 238, 239, 240, 241, 242, 243, 244, 245, 246, 247, 248, 249, 250, 251, 252, 253, 254, 255, 256, 257, 258, 259, 260, 261, 262, 263, 264, 265, 266, 267, 268, 269, 270, 271, 272, 273, 274, 275, 276, 277, 278, 279, 280, 281, 282, 283, 284, 285, 286, 287, 288, 289, 290, 291, 292, 293, 294, 295, 296, 297, 298, 299, 300, 301, 302, 303, 304, 305, 306, 307, 308, 309, 310, 311, 312, 313, 314, 315, 316, 317, 318, 319, 320, 321, 322, 323, 324, 325, 326, 327, 328, 329, 330, 331, 332, 333, 334, 335, 336, 337, 338, 339, 340, 341, 342, 343, 344, 345, 346, 347, 348, 349, 350, 351, 352, 353, 354, 355, 356, 357, 358, 359, 360, 361, 362, 363, 364, 365, 366, 367, 368, 369, 370, 371, 372, 373, 374, 375, 376, 377, 378, 379, 380, 381, 382, 383, 384, 385, 386, 387, 388, 389, 390, 391, 392, 393, 394, 395, 396, 397, 398, 399, 400, 401, 402, 403, 404, 405, 406, 407, 408, 409, 410, 411, 412, 413, 414, 415, 416, 417, 418, 419, 420, 421, 422, 423, 424, 425, 426, 427, 428, 429, 430, 431, 432, 433, 434, 435, 436, 437, 438, 439, 440, 441, 442, 443, 444, 445, 446, 447, 448, 449, 450, 451, 452, 453, 454, 455, 456, 457, 458, 459, 460, 461, 462, 463, 464, 465, 466, 467, 468, 469, 470, 471, 472, 473, 474, 475, 476, 477, 478, 479, 480, 481, 482, 483, 484, 485, 486, 487, 488, 489, 490, 491, 492, 493, 494, 495, 496, 497, 498, 499, 500, 501, 502] rfl (by decide +kernel)) (goodIn_sub (fun _ h => List.mem_cons_of_mem _ (List.mem_append_left _ (List.mem_append_left _ (List.mem_append_right _ h)))) (by decide +kernel))) (goodIn_sub (fun _ h => List.mem_cons_of_mem _ (List.mem_append_left _ (List.mem_append_right _ h))) (by decide +kernel))) (goodIn_sub (fun _ h => List.mem_cons_of_mem _ (List.mem_append_right _ h)) (by decide +kernel))
set_option maxRecDepth 20000 in
theorem gL_waits_L_call : GoodIn wsL_waits (va_wsS RL 169 yL_call wsL_call) := goodIn_app (goodIn_r _ [1, 2, 3] rfl (by decide +kernel)) ggL_waits_L_call
theorem dL_waits_0 : decode cL_waits 0 = .ok (.iconst 1, 1) := by decide +kernel
theorem dL_waits_1 : decode cL_waits 1 = .ok (.istore_n 3, 1) := by decide +kernel
theorem dL_waits_2 : decode cL_waits 2 = .ok (.iload_n 2, 1) := by decide +kernel
theorem dL_waits_3 : decode cL_waits 3 = .ok (.istore 4, 2) := by decide +kernel
theorem dL_waits_5 : decode cL_waits 5 = .ok (.iload 4, 2) := by decide +kernel
theorem dL_waits_7 : decode cL_waits 7 = .ok (.ifCond .le 67, 3) := by decide +kernel
theorem dL_waits_10 : decode cL_waits 10 = .ok (.iload_n 3, 1) := by decide +kernel
theorem dL_waits_11 : decode cL_waits 11 = .ok (.ifCond .eq 63, 3) := by decide +kernel
theorem dL_waits_14 : decode cL_waits 14 = .ok (.iload 4, 2) := by decide +kernel
theorem dL_waits_16 : decode cL_waits 16 = .ok (.bipush 60, 2) := by decide +kernel
theorem dL_waits_18 : decode cL_waits 18 = .ok (.if_icmp .le 8, 3) := by decide +kernel
theorem dL_waits_21 : decode cL_waits 21 = .ok (.bipush 60, 2) := by decide +kernel
theorem dL_waits_23 : decode cL_waits 23 = .ok (.goto 5, 3) := by decide +kernel
theorem dL_waits_26 : decode cL_waits 26 = .ok (.iload 4, 2) := by decide +kernel
theorem dL_waits_28 : decode cL_waits 28 = .ok (.istore 5, 2) := by decide +kernel
theorem dL_waits_30 : decode cL_waits 30 = .ok (.aload_n 0, 1) := by decide +kernel
theorem dL_waits_31 : decode cL_waits 31 = .ok (.bipush 11, 2) := by decide +kernel
theorem dL_waits_33 : decode cL_waits 33 = .ok (.iload 5, 2) := by decide +kernel
theorem dL_waits_35 : decode cL_waits 35 = .ok (.iconst 0, 1) := by decide +kernel
theorem dL_waits_36 : decode cL_waits 36 = .ok (.iconst 0, 1) := by decide +kernel
theorem dL_waits_37 : decode cL_waits 37 = .ok (.invokestatic 169, 3) := by decide +kernel
theorem dL_waits_40 : decode cL_waits 40 = .ok (.istore 6, 2) := by decide +kernel
theorem dL_waits_42 : decode cL_waits 42 = .ok (.iload 6, 2) := by decide +kernel
theorem dL_waits_44 : decode cL_waits 44 = .ok (.ifCond .lt 22, 3) := by decide +kernel
theorem dL_waits_47 : decode cL_waits 47 = .ok (.aload_n 1, 1) := by decide +kernel
theorem dL_waits_48 : decode cL_waits 48 = .ok (.bipush 11, 2) := by decide +kernel
theorem dL_waits_50 : decode cL_waits 50 = .ok (.iload 5, 2) := by decide +kernel
theorem dL_waits_52 : decode cL_waits 52 = .ok (.iconst 0, 1) := by decide +kernel
theorem dL_waits_53 : decode cL_waits 53 = .ok (.iconst 0, 1) := by decide +kernel
theorem dL_waits_54 : decode cL_waits 54 = .ok (.invokestatic 169, 3) := by decide +kernel
theorem dL_waits_57 : decode cL_waits 57 = .ok (.iload 6, 2) := by decide +kernel
theorem dL_waits_59 : decode cL_waits 59 = .ok (.if_icmp .ne 7, 3) := by decide +kernel
theorem dL_waits_62 : decode cL_waits 62 = .ok (.iconst 1, 1) := by decide +kernel
theorem dL_waits_63 : decode cL_waits 63 = .ok (.goto 4, 3) := by decide +kernel
theorem dL_waits_66 : decode cL_waits 66 = .ok (.iconst 0, 1) := by decide +kernel
theorem dL_waits_67 : decode cL_waits 67 = .ok (.istore_n 3, 1) := by decide +kernel
theorem dL_waits_68 : decode cL_waits 68 = .ok (.iinc 4 (-60), 3) := by decide +kernel
theorem dL_waits_71 : decode cL_waits 71 = .ok (.goto (-66), 3) := by decide +kernel
theorem dL_waits_74 : decode cL_waits 74 = .ok (.iload_n 3, 1) := by decide +kernel
theorem dL_waits_75 : decode cL_waits 75 = .ok (.ireturn, 1) := by decide +kernel
set_option maxRecDepth 20000 in
theorem ggL_undoes_L_call : GoodIn wsL_undoes wsL_call := goodIn_ca (goodIn_ca (goodIn_ca (goodIn_r _ [4, 5, 6, 3, 7, 8, 9, 10, 11, 12, 13, 14, 15, 16, 17, 18, 19, 20, 21, 22, 23, 24, 25, 26, 27, 28, 29, 30, 31, 32, 33, 34, 35, 36, 37, 38, 39, 40, 41, 42, 43, 44, 45, 46, 47, 48, 49, 50, 51, 52, 53, 54, 55, 56, 57, 58, 59, 60, 61, 62, 63, 64, 65, 66, 67, 68, 69, 70, 71, 72, 73, 74, 75, 76, 77, 78, 79, 80, 81, 82, 83, 84, 85, 86, 87, 88, 89, 90, 91, 92, 93, 94, 95, 96, 97, 98, 99, 100, 101, 102, 103, 104, 105, 106, 107, 108, 109, 110, 111, 112, 113, 114, 115, 116, 117, 118, 119, 120, 121, 122, 123, 124, 125, 126, 127, 128, 129, 130, 131, 132, 133, 134, 135, 136, 137, 138, 139, 140, 141, 142, 143, 144, 145, 146, 147, 148, 149, 150, 151, 152, 153, 154, 155, 156, 157, 158, 159, 160, 161, 162, 163, 164, 165, 166, 167, 168, 169, 170, 171, 172, 173, 174, 175, 176, 177, 178, 179, 180, 181, 182, 183, 184, 185, 186, 187, 188, 189, 190, 191, 192, 193, 194, 195, 196, 197, 198, 199, 200, 201, 202, 203, 204, 205, 206, 207, 208, 209, 210, 211, 212, 213, 214, 215, 216, 217, 218, 219, 220, 221, 222, 223, 224, 225, 226, 227, 228, 229, 230, 231, 232, 233, 234, 235, 236, 237, 238, 239, 240, 241, 242, 243, 244, 245, 246, 247, 248, 249, 250, 251, 252, 253, 254, 255, 256, 257, 258, 259, 260, 261, 262, 263, 264, 265, 266, 267, 268, 269, 270, 271, 272, 273, 274, 275, 276, 277, 278, 279, 280, 281, 282, 283, 284, 285, 286, 287, 288, 289, 290, 291, 292, 293, 294, 295, 296, 297, 298, 299, 300, 301, 302, 303, 304, 305, 306, 307, 308, 309, 310, 311, 312, 313, 314, 315, 316, 317, 318, 319, 320, 321, 322, 323, 324, 325, 326, 327, 328, 329, 330, 331, 332, 333, 334, 335, 336, 337, 338, 339, 340, 341, 342, 343, 344, 345, 346, 347, 348, 349, 350, 351, 352, 353, 354, 355, 356, 357, 358, 359, 360, 361, 362, 363, 364, 365, 366, 367, 368, 369, 370, 371, 372, 373, 374, 375, 376, 377, 378, 379, 380, 381, 382, 383, 384, 385, 386, 387, 388, 389, 390, 391, 392, 393, 394, 395, 396, 397, 398, 399, 400, 401, 402, 403, 404, 405, 406, 407, 408, 409, 410, 411, 412, 413, 414, 415, 416, 417, 418, 419, 420, 421, 422, 423, 424, 425, 426, 427, 428, 429, 430, 431, 432, 433, 434, 435, 436, 437, 438, 439, 440, 441, 442, 443, 444, 445, 446, 447, 448, 449, 450, 451, 452, 453, 454, 455, 456, 457, 458, 459, 460, 461, 462, 463, 464, 465, 466, 467, 468, 469, 470, 471, 472, 473, 474, 475, 476, 480, 481, 482, 483, 484, 485, 486, 487, 488, 489, 490, 491, 492, 493, 494, 495, 496, 497, 498, 499, 500, 501, 502, 503, 504, 505] rfl (by decide +kernel)) (goodIn_sub (fun _ h => List.mem_cons_of_mem _ (List.mem_append_left _ (List.mem_append_left _ (List.mem_append_right _ h)))) (by decide +kernel))) (goodIn_sub (fun _ h => List.mem_cons_of_mem _ (List.mem_append_left _ (List.mem_append_right _ h))) (by decide +kernel))) (goodIn_sub (fun _ h => List.mem_cons_of_mem _ (List.mem_append_right _ h)) (by decide +kernel))
set_option maxRecDepth 20000 in
theorem gL_undoes_L_call : GoodIn wsL_undoes (va_wsS RL 169 yL_call wsL_call) := goodIn_app (goodIn_r _ [1, 2, 3] rfl (by decide +kernel)) ggL_undoes_L_call
set_option maxRecDepth 20000 in
theorem ggL_undoes_L_thrown : GoodIn wsL_undoes wsL_thrown := goodIn_r _ [479, 262, 10, 11] rfl (by decide +kernel)
set_option maxRecDepth 20000 in
theorem gL_undoes_L_thrown : GoodIn wsL_undoes (va_wsS RL 217 yL_thrown wsL_thrown) := goodIn_app (goodIn_r _ [477, 478, 3] rfl (by decide +kernel)) ggL_undoes_L_thrown
theorem dL_undoes_0 : decode cL_undoes 0 = .ok (.iconst 1, 1) := by decide +kernel
theorem dL_undoes_1 : decode cL_undoes 1 = .ok (.istore_n 3, 1) := by decide +kernel
theorem dL_undoes_2 : decode cL_undoes 2 = .ok (.iload_n 2, 1) := by decide +kernel
theorem dL_undoes_3 : decode cL_undoes 3 = .ok (.istore 4, 2) := by decide +kernel
theorem dL_undoes_5 : decode cL_undoes 5 = .ok (.iload 4, 2) := by decide +kernel
theorem dL_undoes_7 : decode cL_undoes 7 = .ok (.ifCond .le 49, 3) := by decide +kernel
theorem dL_undoes_10 : decode cL_undoes 10 = .ok (.iload_n 3, 1) := by decide +kernel
theorem dL_undoes_11 : decode cL_undoes 11 = .ok (.ifCond .eq 45, 3) := by decide +kernel
theorem dL_undoes_14 : decode cL_undoes 14 = .ok (.aload_n 0, 1) := by decide +kernel
theorem dL_undoes_15 : decode cL_undoes 15 = .ok (.bipush 13, 2) := by decide +kernel
theorem dL_undoes_17 : decode cL_undoes 17 = .ok (.iconst 0, 1) := by decide +kernel
theorem dL_undoes_18 : decode cL_undoes 18 = .ok (.iconst 0, 1) := by decide +kernel
theorem dL_undoes_19 : decode cL_undoes 19 = .ok (.iconst 0, 1) := by decide +kernel
theorem dL_undoes_20 : decode cL_undoes 20 = .ok (.invokestatic 169, 3) := by decide +kernel
theorem dL_undoes_23 : decode cL_undoes 23 = .ok (.invokestatic 217, 3) := by decide +kernel
theorem dL_undoes_26 : decode cL_undoes 26 = .ok (.ifCond .ne 22, 3) := by decide +kernel
theorem dL_undoes_29 : decode cL_undoes 29 = .ok (.aload_n 1, 1) := by decide +kernel
theorem dL_undoes_30 : decode cL_undoes 30 = .ok (.bipush 13, 2) := by decide +kernel
theorem dL_undoes_32 : decode cL_undoes 32 = .ok (.iconst 0, 1) := by decide +kernel
theorem dL_undoes_33 : decode cL_undoes 33 = .ok (.iconst 0, 1) := by decide +kernel
theorem dL_undoes_34 : decode cL_undoes 34 = .ok (.iconst 0, 1) := by decide +kernel
theorem dL_undoes_35 : decode cL_undoes 35 = .ok (.invokestatic 169, 3) := by decide +kernel
theorem dL_undoes_38 : decode cL_undoes 38 = .ok (.invokestatic 217, 3) := by decide +kernel
theorem dL_undoes_41 : decode cL_undoes 41 = .ok (.ifCond .ne 7, 3) := by decide +kernel
theorem dL_undoes_44 : decode cL_undoes 44 = .ok (.iconst 1, 1) := by decide +kernel
theorem dL_undoes_45 : decode cL_undoes 45 = .ok (.goto 4, 3) := by decide +kernel
theorem dL_undoes_48 : decode cL_undoes 48 = .ok (.iconst 0, 1) := by decide +kernel
theorem dL_undoes_49 : decode cL_undoes 49 = .ok (.istore_n 3, 1) := by decide +kernel
theorem dL_undoes_50 : decode cL_undoes 50 = .ok (.iinc 4 (-60), 3) := by decide +kernel
theorem dL_undoes_53 : decode cL_undoes 53 = .ok (.goto (-48), 3) := by decide +kernel
theorem dL_undoes_56 : decode cL_undoes 56 = .ok (.iload_n 3, 1) := by decide +kernel
theorem dL_undoes_57 : decode cL_undoes 57 = .ok (.ireturn, 1) := by decide +kernel
set_option maxRecDepth 20000 in
theorem ggL_comes_L_call : GoodIn wsL_comes wsL_call := goodIn_ca (goodIn_ca (goodIn_ca (goodIn_r _ [4, 5, 6, 3, 7, 8, 9, 10, 11, 12, 13, 14, 15, 16, 17, 18, 19, 20, 21, 22, 23, 24, 25, 26, 27, 28, 29, 30, 31, 32, 33, 34, 35, 36, 37, 38, 39, 40, 41, 42, 43, 44, 45, 46, 47, 48, 49, 50, 51, 52, 53, 54, 55, 56, 57, 58, 59, 60, 61, 62, 63, 64, 65, 66, 67, 68, 69, 70, 71, 72, 73, 74, 75, 76, 77, 78, 79, 80, 81, 82, 83, 84, 85, 86, 87, 88, 89, 90, 91, 92, 93, 94, 95, 96, 97, 98, 99, 100, 101, 102, 103, 104, 105, 106, 107, 108, 109, 110, 111, 112, 113, 114, 115, 116, 117, 118, 119, 120, 121, 122, 123, 124, 125, 126, 127, 128, 129, 130, 131, 132, 133, 134, 135, 136, 137, 138, 139, 140, 141, 142, 143, 144, 145, 146, 147, 148, 149, 150, 151, 152, 153, 154, 155, 156, 157, 158, 159, 160, 161, 162, 163, 164, 165, 166, 167, 168, 169, 170, 171, 172, 173, 174, 175, 176, 177, 178, 179, 180, 181, 182, 183, 184, 185, 186, 187, 188, 189, 190, 191, 192, 193, 194, 195, 196, 197, 198, 199, 200, 201, 202, 203, 204, 205, 206, 207, 208, 209, 210, 211, 212, 213, 214, 215, 216, 217, 218, 219, 220, 221, 222, 223, 224, 225, 226, 227, 228, 229, 230, 231, 232, 233, 234, 235, 236, 237, 238, 239, 240, 241, 242, 243, 244, 245, 246, 247, 248, 249, 250, 251, 252, 253, 254, 255, 256, 257, 258, 259, 260, 261, 262, 263, 264, 265, 266, 267, 268, 269, 270, 271, 272, 273, 274, 275, 276, 277, 278, 279, 280, 281, 282, 283, 284, 285, 286, 287, 288, 289, 290, 291, 292, 293, 294, 295, 296, 297, 298, 299, 300, 301, 302, 303, 304, 305, 306, 307, 308, 309, 310, 311, 312, 313, 314, 315, 316, 317, 318, 319, 320, 321, 322, 323, 324, 325, 326, 327, 328, 329, 330, 331, 332, 333, 334, 335, 336, 337, 338, 339, 340, 341, 342, 343, 344, 345, 346, 347, 348, 349, 350, 351, 352, 353, 354, 355, 356, 357, 358, 359, 360, 361, 362, 363, 364, 365, 366, 367, 368, 369, 370, 371, 372, 373, 374, 375, 376, 377, 378, 379, 380, 381, 382, 383, 384, 385, 386, 387, 388, 389, 390, 391, 392, 393, 394, 395, 396, 397, 398, 399, 400, 401, 402, 403, 404, 405, 406, 407, 408, 409, 410, 411, 412, 413, 414, 415, 416, 417, 418, 419, 420, 421, 422, 423, 424, 425, 426, 427, 428, 429, 430, 431, 432, 433, 434, 435, 436, 437, 438, 439, 440, 441, 442, 443, 444, 445, 446, 447, 448, 449, 450, 451, 452, 453, 454, 455, 456, 457, 458, 459, 460, 461, 462, 463, 464, 465, 466, 467, 468, 469, 470, 471, 472, 473, 474, 475, 476, 486, 487, 488, 489, 490, 491, 492, 493, 494, 495, 496, 497, 498, 499, 500, 501, 502, 503, 504, 505, 506, 507, 508, 509, 510, 511] rfl (by decide +kernel)) (goodIn_sub (fun _ h => List.mem_cons_of_mem _ (List.mem_append_left _ (List.mem_append_left _ (List.mem_append_right _ h)))) (by decide +kernel))) (goodIn_sub (fun _ h => List.mem_cons_of_mem _ (List.mem_append_left _ (List.mem_append_right _ h))) (by decide +kernel))) (goodIn_sub (fun _ h => List.mem_cons_of_mem _ (List.mem_append_right _ h)) (by decide +kernel))
set_option maxRecDepth 20000 in
theorem gL_comes_L_call : GoodIn wsL_comes (va_wsS RL 169 yL_call wsL_call) := goodIn_app (goodIn_r _ [1, 2, 3] rfl (by decide +kernel)) ggL_comes_L_call
set_option maxRecDepth 20000 in
theorem ggL_comes_L_undoes : GoodIn wsL_comes wsL_undoes := goodIn_ca (goodIn_ca (goodIn_ca (goodIn_r _ [479, 1, 2, 3, 4, 5, 6, 7, 8, 9, 10, 11, 12, 13, 14, 15, 16, 17, 18, 19, 20, 21, 22, 23, 24, 25, 26, 27, 28, 29, 30, 31, 32, 33, 34, 35, 36, 37, 38, 39, 40, 41, 42, 43, 44, 45, 46, 47, 48, 49, 50, 51, 52, 53, 54, 55, 56, 57, 58, 59, 60, 61, 62, 63, 64, 65, 66, 67, 68, 69, 70, 71, 72, 73, 74, 75, 76, 77, 78, 79, 80, 81, 82, 83, 84, 85, 86, 87, 88, 89, 90, 91, 92, 93, 94, 95, 96, 97, 98, 99, 100, 101, 102, 103, 104, 105, 106, 107, 108, 109, 110, 111, 112, 113, 114, 115, 116, 117, 118, 119, 120, 121, 122, 123, 124, 125, 126, 127, 128, 129, 130, 131, 132, 133, 134, 135, 136, 137, 138, 139, 140, 141, 142, 143, 144, 145, 146, 147, 148, 149, 150, 151, 152, 153, 154, 155, 156, 157, 158, 159, 160, 161, 162, 163, 164, 165, 166, 167, 168, 169, 170, 171, 172, 173, 174, 175, 176, 177, 178, 179, 180, 181, 182, 183, 184, 185, 186, 187, 188, 189, 190, 191, 192, 193, 194, 195, 196, 197, 198, 199, 200, 201, 202, 203, 204, 205, 206, 207, 208, 209, 210, 211, 212, 213, 214, 215, 216, 217, 218, 219, 220, 221, 222, 223, 224, 225, 226, 227, 228, 229, 230, 231, 232, 233, 234, 235, 236, 237, 238, 239, 240, 241, 242, 243, 244, 245, 246, 247, 248, 249, 250, 251, 252, 253, 254, 255, 256, 257, 258, 259, 260, 261, 262, 263, 264, 265, 266, 267, 268, 269, 270, 271, 272, 273, 274, 275, 276, 277, 278, 279, 280, 281, 282, 283, 284, 285, 286, 287, 288, 289, 290, 291, 292, 293, 294, 295, 296, 297, 298, 299, 300, 301, 302, 303, 304, 305, 306, 307, 308, 309, 310, 311, 312, 313, 314, 315, 316, 317, 318, 319, 320, 321, 322, 323, 324, 325, 326, 327, 328, 329, 330, 331, 332, 333, 334, 335, 336, 337, 338, 339, 340, 341, 342, 343, 344, 345, 346, 347, 348, 349, 350, 351, 352, 353, 354, 355, 356, 357, 358, 359, 360, 361, 362, 363, 364, 365, 366, 367, 368, 369, 370, 371, 372, 373, 374, 375, 376, 377, 378, 379, 380, 381, 382, 383, 384, 385, 386, 387, 388, 389, 390, 391, 392, 393, 394, 395, 396, 397, 398, 399, 400, 401, 402, 403, 404, 405, 406, 407, 408, 409, 410, 411, 412, 413, 414, 415, 416, 417, 418, 419, 420, 421, 422, 423, 424, 425, 426, 427, 428, 429, 430, 431, 432, 433, 434, 435, 436, 437, 438, 439, 440, 441, 442, 443, 444, 445, 446, 447, 448, 449, 450, 451, 452, 453, 454, 455, 456, 457, 458, 459, 460, 461, 462, 463, 464, 465, 466, 467, 468, 469, 470, 471, 472, 473, 474, 475, 476, 480, 481, 482, 486, 487, 488, 489, 490, 491, 492, 493, 494, 495, 496, 497, 498, 499, 500, 501, 502, 503, 504, 505, 506, 507, 508, 509, 510, 511] rfl (by decide +kernel)) (goodIn_sub (fun _ h => List.mem_cons_of_mem _ (List.mem_append_left _ (List.mem_append_left _ (List.mem_append_right _ h)))) (by decide +kernel))) (goodIn_sub (fun _ h => List.mem_cons_of_mem _ (List.mem_append_left _ (List.mem_append_right _ h))) (by decide +kernel))) (goodIn_sub (fun _ h => List.mem_cons_of_mem _ (List.mem_append_right _ h)) (by decide +kernel))
set_option maxRecDepth 20000 in
theorem gL_comes_L_undoes : GoodIn wsL_comes (va_wsS RL 221 yL_undoes wsL_undoes) := goodIn_app (goodIn_r _ [477, 478, 3] rfl (by decide +kernel)) ggL_comes_L_undoes
set_option maxRecDepth 20000 in
theorem ggL_comes_L_waits : GoodIn wsL_comes wsL_waits := goodIn_ca (goodIn_ca (goodIn_ca (goodIn_r _ [485, 1, 2, 3, 4, 5, 6, 7, 8, 9, 10, 11, 12, 13, 14, 15, 16, 17, 18, 19, 20, 21, 22, 23, 24, 25, 26, 27, 28, 29, 30, 31, 32, 33, 34, 35, 36, 37, 38, 39, 40, 41, 42, 43, 44, 45, 46, 47, 48, 49, 50, 51, 52, 53, 54, 55, 56, 57, 58, 59, 60, 61, 62, 63, 64, 65, 66, 67, 68, 69, 70, 71, 72, 73, 74, 75, 76, 77, 78, 79, 80, 81, 82, 83, 84, 85, 86, 87, 88, 89, 90, 91, 92, 93, 94, 95, 96, 97, 98, 99, 100, 101, 102, 103, 104, 105, 106, 107, 108, 109, 110, 111, 112, 113, 114, 115, 116, 117, 118, 119, 120, 121, 122, 123, 124, 125, 126, 127, 128, 129, 130, 131, 132, 133, 134, 135, 136, 137, 138, 139, 140, 141, 142, 143, 144, 145, 146, 147, 148, 149, 150, 151, 152, 153, 154, 155, 156, 157, 158, 159, 160, 161, 162, 163, 164, 165, 166, 167, 168, 169, 170, 171, 172, 173, 174, 175, 176, 177, 178, 179, 180, 181, 182, 183, 184, 185, 186, 187, 188, 189, 190, 191, 192, 193, 194, 195, 196, 197, 198, 199, 200, 201, 202, 203, 204, 205, 206, 207, 208, 209, 210, 211, 212, 213, 214, 215, 216, 217, 218, 219, 220, 221, 222, 223, 224, 225, 226, 227, 228, 229, 230, 231, 232, 233, 234, 235, 236, 237, 238, 239, 240, 241, 242, 243, 244, 245, 246, 247, 248, 249, 250, 251, 252, 253, 254, 255, 256, 257, 258, 259, 260, 261, 262, 263, 264, 265, 266, 267, 268, 269, 270, 271, 272, 273, 274, 275, 276, 277, 278, 279, 280, 281, 282, 283, 284, 285, 286, 287, 288, 289, 290, 291, 292, 293, 294, 295, 296, 297, 298, 299, 300, 301, 302, 303, 304, 305, 306, 307, 308, 309, 310, 311, 312, 313, 314, 315, 316, 317, 318, 319, 320, 321, 322, 323, 324, 325, 326, 327, 328, 329, 330, 331, 332, 333, 334, 335, 336, 337, 338, 339, 340, 341, 342, 343, 344, 345, 346, 347, 348, 349, 350, 351, 352, 353, 354, 355, 356, 357, 358, 359, 360, 361, 362, 363, 364, 365, 366, 367, 368, 369, 370, 371, 372, 373, 374, 375, 376, 377, 378, 379, 380, 381, 382, 383, 384, 385, 386, 387, 388, 389, 390, 391, 392, 393, 394, 395, 396, 397, 398, 399, 400, 401, 402, 403, 404, 405, 406, 407, 408, 409, 410, 411, 412, 413, 414, 415, 416, 417, 418, 419, 420, 421, 422, 423, 424, 425, 426, 427, 428, 429, 430, 431, 432, 433, 434, 435, 436, 437, 438, 439, 440, 441, 442, 443, 444, 445, 446, 447, 448, 449, 450, 451, 452, 453, 454, 455, 456, 457, 458, 459, 460, 461, 462, 463, 464, 465, 466, 467, 468, 469, 470, 471, 472, 473, 474, 475, 476, 486, 487, 488, 489, 490, 491, 492, 493, 494, 495, 496, 497, 498, 499, 500, 501, 502, 503, 504, 505, 506, 507, 508, 509, 510, 511] rfl (by decide +kernel)) (goodIn_sub (fun _ h => List.mem_cons_of_mem _ (List.mem_append_left _ (List.mem_append_left _ (List.mem_append_right _ h)))) (by decide +kernel))) (goodIn_sub (fun _ h => List.mem_cons_of_mem _ (List.mem_append_left _ (List.mem_append_right _ h))) (by decide +kernel))) (goodIn_sub (fun _ h => List.mem_cons_of_mem _ (List.mem_append_right _ h)) (by decide +kernel))
set_option maxRecDepth 20000 in
theorem gL_comes_L_waits : GoodIn wsL_comes (va_wsS RL 224 yL_waits wsL_waits) := goodIn_app (goodIn_r _ [483, 484, 3] rfl (by decide +kernel)) ggL_comes_L_waits
theorem dL_comes_0 : decode cL_comes 0 = .ok (.iconst 2, 1) := by decide +kernel
theorem dL_comes_1 : decode cL_comes 1 = .ok (.iload_n 2, 1) := by decide +kernel
theorem dL_comes_2 : decode cL_comes 2 = .ok (.bipush 7, 2) := by decide +kernel
theorem dL_comes_4 : decode cL_comes 4 = .ok (.irem, 1) := by decide +kernel
theorem dL_comes_5 : decode cL_comes 5 = .ok (.iadd, 1) := by decide +kernel
theorem dL_comes_6 : decode cL_comes 6 = .ok (.istore_n 3, 1) := by decide +kernel
theorem dL_comes_7 : decode cL_comes 7 = .ok (.aload_n 0, 1) := by decide +kernel
theorem dL_comes_8 : decode cL_comes 8 = .ok (.iconst 2, 1) := by decide +kernel
theorem dL_comes_9 : decode cL_comes 9 = .ok (.iconst 0, 1) := by decide +kernel
theorem dL_comes_10 : decode cL_comes 10 = .ok (.iconst 0, 1) := by decide +kernel
theorem dL_comes_11 : decode cL_comes 11 = .ok (.iconst 0, 1) := by decide +kernel
theorem dL_comes_12 : decode cL_comes 12 = .ok (.invokestatic 169, 3) := by decide +kernel
theorem dL_comes_15 : decode cL_comes 15 = .ok (.istore 4, 2) := by decide +kernel
theorem dL_comes_17 : decode cL_comes 17 = .ok (.aload_n 0, 1) := by decide +kernel
theorem dL_comes_18 : decode cL_comes 18 = .ok (.bipush 15, 2) := by decide +kernel
theorem dL_comes_20 : decode cL_comes 20 = .ok (.iload_n 3, 1) := by decide +kernel
theorem dL_comes_21 : decode cL_comes 21 = .ok (.iconst 0, 1) := by decide +kernel
theorem dL_comes_22 : decode cL_comes 22 = .ok (.iconst 0, 1) := by decide +kernel
theorem dL_comes_23 : decode cL_comes 23 = .ok (.invokestatic 169, 3) := by decide +kernel
theorem dL_comes_26 : decode cL_comes 26 = .ok (.istore 5, 2) := by decide +kernel
theorem dL_comes_28 : decode cL_comes 28 = .ok (.aload_n 0, 1) := by decide +kernel
theorem dL_comes_29 : decode cL_comes 29 = .ok (.iconst 2, 1) := by decide +kernel
theorem dL_comes_30 : decode cL_comes 30 = .ok (.bipush 9, 2) := by decide +kernel
theorem dL_comes_32 : decode cL_comes 32 = .ok (.iconst 0, 1) := by decide +kernel
theorem dL_comes_33 : decode cL_comes 33 = .ok (.iconst 0, 1) := by decide +kernel
theorem dL_comes_34 : decode cL_comes 34 = .ok (.invokestatic 169, 3) := by decide +kernel
theorem dL_comes_37 : decode cL_comes 37 = .ok (.istore 6, 2) := by decide +kernel
theorem dL_comes_39 : decode cL_comes 39 = .ok (.aload_n 0, 1) := by decide +kernel
theorem dL_comes_40 : decode cL_comes 40 = .ok (.bipush 16, 2) := by decide +kernel
theorem dL_comes_42 : decode cL_comes 42 = .ok (.iload_n 3, 1) := by decide +kernel
theorem dL_comes_43 : decode cL_comes 43 = .ok (.iconst 0, 1) := by decide +kernel
theorem dL_comes_44 : decode cL_comes 44 = .ok (.iconst 0, 1) := by decide +kernel
theorem dL_comes_45 : decode cL_comes 45 = .ok (.invokestatic 169, 3) := by decide +kernel
theorem dL_comes_48 : decode cL_comes 48 = .ok (.istore 7, 2) := by decide +kernel
theorem dL_comes_50 : decode cL_comes 50 = .ok (.iconst 1, 1) := by decide +kernel
theorem dL_comes_51 : decode cL_comes 51 = .ok (.istore 8, 2) := by decide +kernel
theorem dL_comes_53 : decode cL_comes 53 = .ok (.iload 4, 2) := by decide +kernel
theorem dL_comes_55 : decode cL_comes 55 = .ok (.bipush 40, 2) := by decide +kernel
theorem dL_comes_57 : decode cL_comes 57 = .ok (.if_icmp .ge 152, 3) := by decide +kernel
theorem dL_comes_60 : decode cL_comes 60 = .ok (.aload_n 0, 1) := by decide +kernel
theorem dL_comes_61 : decode cL_comes 61 = .ok (.bipush 7, 2) := by decide +kernel
theorem dL_comes_63 : decode cL_comes 63 = .ok (.iload_n 3, 1) := by decide +kernel
theorem dL_comes_64 : decode cL_comes 64 = .ok (.bipush 9, 2) := by decide +kernel
theorem dL_comes_66 : decode cL_comes 66 = .ok (.iconst 0, 1) := by decide +kernel
theorem dL_comes_67 : decode cL_comes 67 = .ok (.invokestatic 169, 3) := by decide +kernel
theorem dL_comes_70 : decode cL_comes 70 = .ok (.iload 4, 2) := by decide +kernel
theorem dL_comes_72 : decode cL_comes 72 = .ok (.if_icmp .ne 134, 3) := by decide +kernel
theorem dL_comes_75 : decode cL_comes 75 = .ok (.aload_n 1, 1) := by decide +kernel
theorem dL_comes_76 : decode cL_comes 76 = .ok (.bipush 7, 2) := by decide +kernel
theorem dL_comes_78 : decode cL_comes 78 = .ok (.iload_n 3, 1) := by decide +kernel
theorem dL_comes_79 : decode cL_comes 79 = .ok (.bipush 9, 2) := by decide +kernel
theorem dL_comes_81 : decode cL_comes 81 = .ok (.iconst 0, 1) := by decide +kernel
theorem dL_comes_82 : decode cL_comes 82 = .ok (.invokestatic 169, 3) := by decide +kernel
theorem dL_comes_85 : decode cL_comes 85 = .ok (.iload 4, 2) := by decide +kernel
theorem dL_comes_87 : decode cL_comes 87 = .ok (.if_icmp .ne 119, 3) := by decide +kernel
theorem dL_comes_90 : decode cL_comes 90 = .ok (.aload_n 0, 1) := by decide +kernel
theorem dL_comes_91 : decode cL_comes 91 = .ok (.iconst 3, 1) := by decide +kernel
theorem dL_comes_92 : decode cL_comes 92 = .ok (.iload 4, 2) := by decide +kernel
theorem dL_comes_94 : decode cL_comes 94 = .ok (.iconst 3, 1) := by decide +kernel
theorem dL_comes_95 : decode cL_comes 95 = .ok (.iconst 0, 1) := by decide +kernel
theorem dL_comes_96 : decode cL_comes 96 = .ok (.invokestatic 169, 3) := by decide +kernel
theorem dL_comes_99 : decode cL_comes 99 = .ok (.iload 5, 2) := by decide +kernel
theorem dL_comes_101 : decode cL_comes 101 = .ok (.if_icmp .ne 105, 3) := by decide +kernel
theorem dL_comes_104 : decode cL_comes 104 = .ok (.aload_n 0, 1) := by decide +kernel
theorem dL_comes_105 : decode cL_comes 105 = .ok (.iconst 3, 1) := by decide +kernel
theorem dL_comes_106 : decode cL_comes 106 = .ok (.iload 4, 2) := by decide +kernel
theorem dL_comes_108 : decode cL_comes 108 = .ok (.iconst 2, 1) := by decide +kernel
theorem dL_comes_109 : decode cL_comes 109 = .ok (.iconst 0, 1) := by decide +kernel
theorem dL_comes_110 : decode cL_comes 110 = .ok (.invokestatic 169, 3) := by decide +kernel
theorem dL_comes_113 : decode cL_comes 113 = .ok (.iload 5, 2) := by decide +kernel
theorem dL_comes_115 : decode cL_comes 115 = .ok (.iconst (-1), 1) := by decide +kernel
theorem dL_comes_116 : decode cL_comes 116 = .ok (.if_icmp .ne 7, 3) := by decide +kernel
theorem dL_comes_119 : decode cL_comes 119 = .ok (.iconst 1, 1) := by decide +kernel
theorem dL_comes_120 : decode cL_comes 120 = .ok (.goto 4, 3) := by decide +kernel
theorem dL_comes_123 : decode cL_comes 123 = .ok (.iconst 0, 1) := by decide +kernel
theorem dL_comes_124 : decode cL_comes 124 = .ok (.if_icmp .ne 82, 3) := by decide +kernel
theorem dL_comes_127 : decode cL_comes 127 = .ok (.aload_n 0, 1) := by decide +kernel
theorem dL_comes_128 : decode cL_comes 128 = .ok (.iconst 2, 1) := by decide +kernel
theorem dL_comes_129 : decode cL_comes 129 = .ok (.bipush 9, 2) := by decide +kernel
theorem dL_comes_131 : decode cL_comes 131 = .ok (.iconst 0, 1) := by decide +kernel
theorem dL_comes_132 : decode cL_comes 132 = .ok (.iconst 0, 1) := by decide +kernel
theorem dL_comes_133 : decode cL_comes 133 = .ok (.invokestatic 169, 3) := by decide +kernel
theorem dL_comes_136 : decode cL_comes 136 = .ok (.iload 6, 2) := by decide +kernel
theorem dL_comes_138 : decode cL_comes 138 = .ok (.iload 5, 2) := by decide +kernel
theorem dL_comes_140 : decode cL_comes 140 = .ok (.iconst (-1), 1) := by decide +kernel
theorem dL_comes_141 : decode cL_comes 141 = .ok (.if_icmp .ne 7, 3) := by decide +kernel
theorem dL_comes_144 : decode cL_comes 144 = .ok (.iconst 0, 1) := by decide +kernel
theorem dL_comes_145 : decode cL_comes 145 = .ok (.goto 4, 3) := by decide +kernel
theorem dL_comes_148 : decode cL_comes 148 = .ok (.iload_n 3, 1) := by decide +kernel
theorem dL_comes_149 : decode cL_comes 149 = .ok (.isub, 1) := by decide +kernel
theorem dL_comes_150 : decode cL_comes 150 = .ok (.if_icmp .ne 56, 3) := by decide +kernel
theorem dL_comes_153 : decode cL_comes 153 = .ok (.aload_n 0, 1) := by decide +kernel
theorem dL_comes_154 : decode cL_comes 154 = .ok (.bipush 16, 2) := by decide +kernel
theorem dL_comes_156 : decode cL_comes 156 = .ok (.iload_n 3, 1) := by decide +kernel
theorem dL_comes_157 : decode cL_comes 157 = .ok (.iconst 1, 1) := by decide +kernel
theorem dL_comes_158 : decode cL_comes 158 = .ok (.iconst 0, 1) := by decide +kernel
theorem dL_comes_159 : decode cL_comes 159 = .ok (.invokestatic 169, 3) := by decide +kernel
theorem dL_comes_162 : decode cL_comes 162 = .ok (.iload 7, 2) := by decide +kernel
theorem dL_comes_164 : decode cL_comes 164 = .ok (.iload 5, 2) := by decide +kernel
theorem dL_comes_166 : decode cL_comes 166 = .ok (.iconst (-1), 1) := by decide +kernel
theorem dL_comes_167 : decode cL_comes 167 = .ok (.if_icmp .ne 7, 3) := by decide +kernel
theorem dL_comes_170 : decode cL_comes 170 = .ok (.iconst 0, 1) := by decide +kernel
theorem dL_comes_171 : decode cL_comes 171 = .ok (.goto 4, 3) := by decide +kernel
theorem dL_comes_174 : decode cL_comes 174 = .ok (.iconst 1, 1) := by decide +kernel
theorem dL_comes_175 : decode cL_comes 175 = .ok (.isub, 1) := by decide +kernel
theorem dL_comes_176 : decode cL_comes 176 = .ok (.if_icmp .gt 30, 3) := by decide +kernel
theorem dL_comes_179 : decode cL_comes 179 = .ok (.aload_n 0, 1) := by decide +kernel
theorem dL_comes_180 : decode cL_comes 180 = .ok (.aload_n 1, 1) := by decide +kernel
theorem dL_comes_181 : decode cL_comes 181 = .ok (.iconst 1, 1) := by decide +kernel
theorem dL_comes_182 : decode cL_comes 182 = .ok (.invokestatic 221, 3) := by decide +kernel
theorem dL_comes_185 : decode cL_comes 185 = .ok (.ifCond .eq 21, 3) := by decide +kernel
theorem dL_comes_188 : decode cL_comes 188 = .ok (.aload_n 0, 1) := by decide +kernel
theorem dL_comes_189 : decode cL_comes 189 = .ok (.bipush 15, 2) := by decide +kernel
theorem dL_comes_191 : decode cL_comes 191 = .ok (.iload_n 3, 1) := by decide +kernel
theorem dL_comes_192 : decode cL_comes 192 = .ok (.iconst 0, 1) := by decide +kernel
theorem dL_comes_193 : decode cL_comes 193 = .ok (.iconst 0, 1) := by decide +kernel
theorem dL_comes_194 : decode cL_comes 194 = .ok (.invokestatic 169, 3) := by decide +kernel
theorem dL_comes_197 : decode cL_comes 197 = .ok (.iload 5, 2) := by decide +kernel
theorem dL_comes_199 : decode cL_comes 199 = .ok (.if_icmp .ne 7, 3) := by decide +kernel
theorem dL_comes_202 : decode cL_comes 202 = .ok (.iconst 1, 1) := by decide +kernel
theorem dL_comes_203 : decode cL_comes 203 = .ok (.goto 4, 3) := by decide +kernel
theorem dL_comes_206 : decode cL_comes 206 = .ok (.iconst 0, 1) := by decide +kernel
theorem dL_comes_207 : decode cL_comes 207 = .ok (.istore 8, 2) := by decide +kernel
theorem dL_comes_209 : decode cL_comes 209 = .ok (.aload_n 0, 1) := by decide +kernel
theorem dL_comes_210 : decode cL_comes 210 = .ok (.bipush 17, 2) := by decide +kernel
theorem dL_comes_212 : decode cL_comes 212 = .ok (.iload_n 3, 1) := by decide +kernel
theorem dL_comes_213 : decode cL_comes 213 = .ok (.iconst 0, 1) := by decide +kernel
theorem dL_comes_214 : decode cL_comes 214 = .ok (.iconst 0, 1) := by decide +kernel
theorem dL_comes_215 : decode cL_comes 215 = .ok (.invokestatic 169, 3) := by decide +kernel
theorem dL_comes_218 : decode cL_comes 218 = .ok (.istore 9, 2) := by decide +kernel
theorem dL_comes_220 : decode cL_comes 220 = .ok (.iload 9, 2) := by decide +kernel
theorem dL_comes_222 : decode cL_comes 222 = .ok (.iconst (-1), 1) := by decide +kernel
theorem dL_comes_223 : decode cL_comes 223 = .ok (.if_icmp .ne 8, 3) := by decide +kernel
theorem dL_comes_226 : decode cL_comes 226 = .ok (.bipush 100, 2) := by decide +kernel
theorem dL_comes_228 : decode cL_comes 228 = .ok (.goto 5, 3) := by decide +kernel
theorem dL_comes_231 : decode cL_comes 231 = .ok (.iload 9, 2) := by decide +kernel
theorem dL_comes_233 : decode cL_comes 233 = .ok (.istore 10, 2) := by decide +kernel
theorem dL_comes_235 : decode cL_comes 235 = .ok (.iload 8, 2) := by decide +kernel
theorem dL_comes_237 : decode cL_comes 237 = .ok (.ifCond .eq 58, 3) := by decide +kernel
theorem dL_comes_240 : decode cL_comes 240 = .ok (.aload_n 0, 1) := by decide +kernel
theorem dL_comes_241 : decode cL_comes 241 = .ok (.aload_n 1, 1) := by decide +kernel
theorem dL_comes_242 : decode cL_comes 242 = .ok (.iload 10, 2) := by decide +kernel
theorem dL_comes_244 : decode cL_comes 244 = .ok (.invokestatic 224, 3) := by decide +kernel
theorem dL_comes_247 : decode cL_comes 247 = .ok (.ifCond .eq 48, 3) := by decide +kernel
theorem dL_comes_250 : decode cL_comes 250 = .ok (.aload_n 0, 1) := by decide +kernel
theorem dL_comes_251 : decode cL_comes 251 = .ok (.bipush 14, 2) := by decide +kernel
theorem dL_comes_253 : decode cL_comes 253 = .ok (.iload_n 3, 1) := by decide +kernel
theorem dL_comes_254 : decode cL_comes 254 = .ok (.iconst 0, 1) := by decide +kernel
theorem dL_comes_255 : decode cL_comes 255 = .ok (.iconst 0, 1) := by decide +kernel
theorem dL_comes_256 : decode cL_comes 256 = .ok (.invokestatic 169, 3) := by decide +kernel
theorem dL_comes_259 : decode cL_comes 259 = .ok (.ifCond .ne 7, 3) := by decide +kernel
theorem dL_comes_262 : decode cL_comes 262 = .ok (.iconst 1, 1) := by decide +kernel
theorem dL_comes_263 : decode cL_comes 263 = .ok (.goto 4, 3) := by decide +kernel
theorem dL_comes_266 : decode cL_comes 266 = .ok (.iconst 0, 1) := by decide +kernel
theorem dL_comes_267 : decode cL_comes 267 = .ok (.iload 9, 2) := by decide +kernel
theorem dL_comes_269 : decode cL_comes 269 = .ok (.iconst (-1), 1) := by decide +kernel
theorem dL_comes_270 : decode cL_comes 270 = .ok (.if_icmp .eq 7, 3) := by decide +kernel
theorem dL_comes_273 : decode cL_comes 273 = .ok (.iconst 1, 1) := by decide +kernel
theorem dL_comes_274 : decode cL_comes 274 = .ok (.goto 4, 3) := by decide +kernel
theorem dL_comes_277 : decode cL_comes 277 = .ok (.iconst 0, 1) := by decide +kernel
theorem dL_comes_278 : decode cL_comes 278 = .ok (.if_icmp .ne 17, 3) := by decide +kernel
theorem dL_comes_281 : decode cL_comes 281 = .ok (.aload_n 0, 1) := by decide +kernel
theorem dL_comes_282 : decode cL_comes 282 = .ok (.aload_n 1, 1) := by decide +kernel
theorem dL_comes_283 : decode cL_comes 283 = .ok (.iload 10, 2) := by decide +kernel
theorem dL_comes_285 : decode cL_comes 285 = .ok (.invokestatic 221, 3) := by decide +kernel
theorem dL_comes_288 : decode cL_comes 288 = .ok (.ifCond .eq 7, 3) := by decide +kernel
theorem dL_comes_291 : decode cL_comes 291 = .ok (.iconst 1, 1) := by decide +kernel
theorem dL_comes_292 : decode cL_comes 292 = .ok (.goto 4, 3) := by decide +kernel
theorem dL_comes_295 : decode cL_comes 295 = .ok (.iconst 0, 1) := by decide +kernel
theorem dL_comes_296 : decode cL_comes 296 = .ok (.istore 8, 2) := by decide +kernel
theorem dL_comes_298 : decode cL_comes 298 = .ok (.iload 10, 2) := by decide +kernel
theorem dL_comes_300 : decode cL_comes 300 = .ok (.iconst 1, 1) := by decide +kernel
theorem dL_comes_301 : decode cL_comes 301 = .ok (.if_icmp .le 51, 3) := by decide +kernel
theorem dL_comes_304 : decode cL_comes 304 = .ok (.iload 8, 2) := by decide +kernel
theorem dL_comes_306 : decode cL_comes 306 = .ok (.ifCond .eq 46, 3) := by decide +kernel
theorem dL_comes_309 : decode cL_comes 309 = .ok (.aload_n 0, 1) := by decide +kernel
theorem dL_comes_310 : decode cL_comes 310 = .ok (.aload_n 1, 1) := by decide +kernel
theorem dL_comes_311 : decode cL_comes 311 = .ok (.iload 10, 2) := by decide +kernel
theorem dL_comes_313 : decode cL_comes 313 = .ok (.iconst 1, 1) := by decide +kernel
theorem dL_comes_314 : decode cL_comes 314 = .ok (.isub, 1) := by decide +kernel
theorem dL_comes_315 : decode cL_comes 315 = .ok (.invokestatic 224, 3) := by decide +kernel
theorem dL_comes_318 : decode cL_comes 318 = .ok (.ifCond .eq 31, 3) := by decide +kernel
theorem dL_comes_321 : decode cL_comes 321 = .ok (.aload_n 0, 1) := by decide +kernel
theorem dL_comes_322 : decode cL_comes 322 = .ok (.bipush 14, 2) := by decide +kernel
theorem dL_comes_324 : decode cL_comes 324 = .ok (.iload_n 3, 1) := by decide +kernel
theorem dL_comes_325 : decode cL_comes 325 = .ok (.iconst 0, 1) := by decide +kernel
theorem dL_comes_326 : decode cL_comes 326 = .ok (.iconst 0, 1) := by decide +kernel
theorem dL_comes_327 : decode cL_comes 327 = .ok (.invokestatic 169, 3) := by decide +kernel
theorem dL_comes_330 : decode cL_comes 330 = .ok (.ifCond .le 19, 3) := by decide +kernel
theorem dL_comes_333 : decode cL_comes 333 = .ok (.aload_n 0, 1) := by decide +kernel
theorem dL_comes_334 : decode cL_comes 334 = .ok (.aload_n 1, 1) := by decide +kernel
theorem dL_comes_335 : decode cL_comes 335 = .ok (.iload 10, 2) := by decide +kernel
theorem dL_comes_337 : decode cL_comes 337 = .ok (.iconst 1, 1) := by decide +kernel
theorem dL_comes_338 : decode cL_comes 338 = .ok (.isub, 1) := by decide +kernel
theorem dL_comes_339 : decode cL_comes 339 = .ok (.invokestatic 221, 3) := by decide +kernel
theorem dL_comes_342 : decode cL_comes 342 = .ok (.ifCond .eq 7, 3) := by decide +kernel
theorem dL_comes_345 : decode cL_comes 345 = .ok (.iconst 1, 1) := by decide +kernel
theorem dL_comes_346 : decode cL_comes 346 = .ok (.goto 4, 3) := by decide +kernel
theorem dL_comes_349 : decode cL_comes 349 = .ok (.iconst 0, 1) := by decide +kernel
theorem dL_comes_350 : decode cL_comes 350 = .ok (.istore 8, 2) := by decide +kernel
theorem dL_comes_352 : decode cL_comes 352 = .ok (.iload 8, 2) := by decide +kernel
theorem dL_comes_354 : decode cL_comes 354 = .ok (.ifCond .eq 21, 3) := by decide +kernel
theorem dL_comes_357 : decode cL_comes 357 = .ok (.aload_n 0, 1) := by decide +kernel
theorem dL_comes_358 : decode cL_comes 358 = .ok (.iconst 2, 1) := by decide +kernel
theorem dL_comes_359 : decode cL_comes 359 = .ok (.bipush 9, 2) := by decide +kernel
theorem dL_comes_361 : decode cL_comes 361 = .ok (.iconst 0, 1) := by decide +kernel
theorem dL_comes_362 : decode cL_comes 362 = .ok (.iconst 0, 1) := by decide +kernel
theorem dL_comes_363 : decode cL_comes 363 = .ok (.invokestatic 169, 3) := by decide +kernel
theorem dL_comes_366 : decode cL_comes 366 = .ok (.iload 6, 2) := by decide +kernel
theorem dL_comes_368 : decode cL_comes 368 = .ok (.if_icmp .ne 7, 3) := by decide +kernel
theorem dL_comes_371 : decode cL_comes 371 = .ok (.iconst 1, 1) := by decide +kernel
theorem dL_comes_372 : decode cL_comes 372 = .ok (.goto 4, 3) := by decide +kernel
theorem dL_comes_375 : decode cL_comes 375 = .ok (.iconst 0, 1) := by decide +kernel
theorem dL_comes_376 : decode cL_comes 376 = .ok (.ireturn, 1) := by decide +kernel
set_option maxRecDepth 20000 in
theorem ggL_moves_L_call : GoodIn wsL_moves wsL_call := goodIn_ca (goodIn_ca (goodIn_ca (goodIn_r _ [5, 6, 7, 4, 8, 9, 10, 11, 1, 12, 13, 14, 15, 16, 17, 18, 19, 20, 21, 22, 23, 24, 25, 26, 27, 28, 29, 30, 31, 32, 33, 34, 35, 36, 37, 38, 39, 40, 41, 42, 43, 44, 45, 46, 47, 48, 49, 50, 51, 52, 53, 54, 55, 56, 57, 58, 59, 60, 61, 62, 63, 64, 65, 66, 67, 68, 69, 70, 71, 72, 73, 74, 75, 76, 77, 78, 79, 80, 81, 82, 83, 84, 85, 86, 87, 88, 89, 90, 91, 92, 93, 94, 95, 96, 97, 98, 99, 100, 101, 102, 103, 104, 105, 106, 107, 108, 109, 110, 111, 112, 113, 114, 115, 116, 117, 118, 119, 120, 121, 122, 123, 124, 125, 126, 127, 128, 129, 130, 131, 132, 133, 134, 135, 136, 137, 138, 139, 140, 141, 142, 143, 144, 145, 146, 147, 148, 149, 150, 151, 152, 153, 154, 155, 156, 157, 158, 159, 160, 161, 162, 163, 164, 165, 166, 167, 168, 169, 170, 171, 172, 173, 174, 175, 176, 177, 178, 179, 180, 181, 182, 183, 184, 185, 186, 187, 188, 189, 190, 191, 192, 193, 194, 195, 196, 197, 198, 199, 200, 201, 202, 203, 204, 205, 206, 207, 208, 209, 210, 211, 212, 213, 214, 215, 216, 217, 218, 219, 220, 221, 222, 223, 224, 225, 226, 227, 228, 229, 230, 231, 232, 233, 234, 235, 236, 237, 238, 239, 240, 241, 242, 243, 244, 245, 246, 247, 248, 249, 250, 251, 252, 253, 254, 255, 256, 257, 258, 259, 260, 261, 262, 263, 264, 265, 266, 267, 268, 269, 270, 271, 272, 273, 274, 275, 276, 277, 278, 279, 280, 281, 282, 283, 284, 285, 286, 287, 288, 289, 290, 291, 292, 293, 294, 295, 296, 297, 298, 299, 300, 301, 302, 303, 304, 305, 306, 307, 308, 309, 310, 311, 312, 313, 314, 315, 316, 317, 318, 319, 320, 321, 322, 323, 324, 325, 326, 327, 328, 329, 330, 331, 332, 333, 334, 335, 336, 337, 338, 339, 340, 341, 342, 343, 344, 345, 346, 347, 348, 349, 350, 351, 352, 353, 354, 355, 356, 357, 358, 359, 360, 361, 362, 363, 364, 365, 366, 367, 368, 369, 370, 371, 372, 373, 374, 375, 376, 377, 378, 379, 380, 381, 382, 383, 384, 385, 386, 387, 388, 389, 390, 391, 392, 393, 394, 395, 396, 397, 398, 399, 400, 401, 402, 403, 404, 405, 406, 407, 408, 409, 410, 411, 412, 413, 414, 415, 416, 417, 418, 419, 420, 421, 422, 423, 424, 425, 426, 427, 428, 429, 430, 431, 432, 433, 434, 435, 436, 437, 438, 439, 440, 441, 442, 443, 444, 445, 446, 447, 448, 449, 450, 451, 452, 453, 454, 455, 456, 457, 458, 459, 460, 461, 462, 463, 464, 465, 466, 467, 468, 469, 470, 471, 472, 473, 474, 475, 476, 483, 484, 485, 486, 487, 488, 489, 490, 491, 492, 493, 494, 495, 496, 497, 498, 499, 500, 501, 502, 503, 504, 505, 506, 507, 508] rfl (by decide +kernel)) (goodIn_sub (fun _ h => List.mem_cons_of_mem _ (List.mem_append_left _ (List.mem_append_left _ (List.mem_append_right _ h)))) (by decide +kernel))) (goodIn_sub (fun _ h => List.mem_cons_of_mem _ (List.mem_append_left _ (List.mem_append_right _ h))) (by decide +kernel))) (goodIn_sub (fun _ h => List.mem_cons_of_mem _ (List.mem_append_right _ h)) (by decide +kernel))
set_option maxRecDepth 20000 in
theorem gL_moves_L_call : GoodIn wsL_moves (va_wsS RL 169 yL_call wsL_call) := goodIn_app (goodIn_r _ [2, 3, 4] rfl (by decide +kernel)) ggL_moves_L_call
set_option maxRecDepth 20000 in
theorem ggL_moves_L_undoes : GoodIn wsL_moves wsL_undoes := goodIn_ca (goodIn_ca (goodIn_ca (goodIn_r _ [479, 2, 3, 4, 5, 6, 7, 8, 9, 10, 11, 1, 12, 13, 14, 15, 16, 17, 18, 19, 20, 21, 22, 23, 24, 25, 26, 27, 28, 29, 30, 31, 32, 33, 34, 35, 36, 37, 38, 39, 40, 41, 42, 43, 44, 45, 46, 47, 48, 49, 50, 51, 52, 53, 54, 55, 56, 57, 58, 59, 60, 61, 62, 63, 64, 65, 66, 67, 68, 69, 70, 71, 72, 73, 74, 75, 76, 77, 78, 79, 80, 81, 82, 83, 84, 85, 86, 87, 88, 89, 90, 91, 92, 93, 94, 95, 96, 97, 98, 99, 100, 101, 102, 103, 104, 105, 106, 107, 108, 109, 110, 111, 112, 113, 114, 115, 116, 117, 118, 119, 120, 121, 122, 123, 124, 125, 126, 127, 128, 129, 130, 131, 132, 133, 134, 135, 136, 137, 138, 139, 140, 141, 142, 143, 144, 145, 146, 147, 148, 149, 150, 151, 152, 153, 154, 155, 156, 157, 158, 159, 160, 161, 162, 163, 164, 165, 166, 167, 168, 169, 170, 171, 172, 173, 174, 175, 176, 177, 178, 179, 180, 181, 182, 183, 184, 185, 186, 187, 188, 189, 190, 191, 192, 193, 194, 195, 196, 197, 198, 199, 200, 201, 202, 203, 204, 205, 206, 207, 208, 209, 210, 211, 212, 213, 214, 215, 216, 217, 218, 219, 220, 221, 222, 223, 224, 225, 226, 227, 228, 229, 230, 231, 232, 233, 234, 235, 236, 237, 238, 239, 240, 241, 242, 243, 244, 245, 246, 247, 248, 249, 250, 251, 252, 253, 254, 255, 256, 257, 258, 259, 260, 261, 262, 263, 264, 265, 266, 267, 268, 269, 270, 271, 272, 273, 274, 275, 276, 277, 278, 279, 280, 281, 282, 283, 284, 285, 286, 287, 288, 289, 290, 291, 292, 293, 294, 295, 296, 297, 298, 299, 300, 301, 302, 303, 304, 305, 306, 307, 308, 309, 310, 311, 312, 313, 314, 315, 316, 317, 318, 319, 320, 321, 322, 323, 324, 325, 326, 327, 328, 329, 330, 331, 332, 333, 334, 335, 336, 337, 338, 339, 340, 341, 342, 343, 344, 345, 346, 347, 348, 349, 350, 351, 352, 353, 354, 355, 356, 357, 358, 359, 360, 361, 362, 363, 364, 365, 366, 367, 368, 369, 370, 371, 372, 373, 374, 375, 376, 377, 378, 379, 380, 381, 382, 383, 384, 385, 386, 387, 388, 389, 390, 391, 392, 393, 394, 395, 396, 397, 398, 399, 400, 401, 402, 403, 404, 405, 406, 407, 408, 409, 410, 411, 412, 413, 414, 415, 416, 417, 418, 419, 420, 421, 422, 423, 424, 425, 426, 427, 428, 429, 430, 431, 432, 433, 434, 435, 436, 437, 438, 439, 440, 441, 442, 443, 444, 445, 446, 447, 448, 449, 450, 451, 452, 453, 454, 455, 456, 457, 458, 459, 460, 461, 462, 463, 464, 465, 466, 467, 468, 469, 470, 471, 472, 473, 474, 475, 476, 480, 481, 482, 483, 484, 485, 486, 487, 488, 489, 490, 491, 492, 493, 494, 495, 496, 497, 498, 499, 500, 501, 502, 503, 504, 505, 506, 507, 508] rfl (by decide +kernel)) (goodIn_sub (fun _ h => List.mem_cons_of_mem _ (List.mem_append_left _ (List.mem_append_left _ (List.mem_append_right _ h)))) (by decide +kernel))) (goodIn_sub (fun _ h => List.mem_cons_of_mem _ (List.mem_append_left _ (List.mem_append_right _ h))) (by decide +kernel))) (goodIn_sub (fun _ h => List.mem_cons_of_mem _ (List.mem_append_right _ h)) (by decide +kernel))
set_option maxRecDepth 20000 in
theorem gL_moves_L_undoes : GoodIn wsL_moves (va_wsS RL 221 yL_undoes wsL_undoes) := goodIn_app (goodIn_r _ [477, 478, 4] rfl (by decide +kernel)) ggL_moves_L_undoes
theorem dL_moves_0 : decode cL_moves 0 = .ok (.iconst 2, 1) := by decide +kernel
theorem dL_moves_1 : decode cL_moves 1 = .ok (.iload_n 2, 1) := by decide +kernel
theorem dL_moves_2 : decode cL_moves 2 = .ok (.bipush 7, 2) := by decide +kernel
theorem dL_moves_4 : decode cL_moves 4 = .ok (.irem, 1) := by decide +kernel
theorem dL_moves_5 : decode cL_moves 5 = .ok (.iadd, 1) := by decide +kernel
theorem dL_moves_6 : decode cL_moves 6 = .ok (.istore_n 3, 1) := by decide +kernel
theorem dL_moves_7 : decode cL_moves 7 = .ok (.aload_n 0, 1) := by decide +kernel
theorem dL_moves_8 : decode cL_moves 8 = .ok (.bipush 18, 2) := by decide +kernel
theorem dL_moves_10 : decode cL_moves 10 = .ok (.iload_n 3, 1) := by decide +kernel
theorem dL_moves_11 : decode cL_moves 11 = .ok (.iconst 0, 1) := by decide +kernel
theorem dL_moves_12 : decode cL_moves 12 = .ok (.iconst 0, 1) := by decide +kernel
theorem dL_moves_13 : decode cL_moves 13 = .ok (.invokestatic 169, 3) := by decide +kernel
theorem dL_moves_16 : decode cL_moves 16 = .ok (.istore 4, 2) := by decide +kernel
theorem dL_moves_18 : decode cL_moves 18 = .ok (.aload_n 0, 1) := by decide +kernel
theorem dL_moves_19 : decode cL_moves 19 = .ok (.bipush 18, 2) := by decide +kernel
theorem dL_moves_21 : decode cL_moves 21 = .ok (.iload_n 3, 1) := by decide +kernel
theorem dL_moves_22 : decode cL_moves 22 = .ok (.iconst 1, 1) := by decide +kernel
theorem dL_moves_23 : decode cL_moves 23 = .ok (.iconst 0, 1) := by decide +kernel
theorem dL_moves_24 : decode cL_moves 24 = .ok (.invokestatic 169, 3) := by decide +kernel
theorem dL_moves_27 : decode cL_moves 27 = .ok (.istore 5, 2) := by decide +kernel
theorem dL_moves_29 : decode cL_moves 29 = .ok (.iload 4, 2) := by decide +kernel
theorem dL_moves_31 : decode cL_moves 31 = .ok (.iconst (-1), 1) := by decide +kernel
theorem dL_moves_32 : decode cL_moves 32 = .ok (.if_icmp .ne 7, 3) := by decide +kernel
theorem dL_moves_35 : decode cL_moves 35 = .ok (.iconst 1, 1) := by decide +kernel
theorem dL_moves_36 : decode cL_moves 36 = .ok (.goto 4, 3) := by decide +kernel
theorem dL_moves_39 : decode cL_moves 39 = .ok (.iconst 0, 1) := by decide +kernel
theorem dL_moves_40 : decode cL_moves 40 = .ok (.iload 5, 2) := by decide +kernel
theorem dL_moves_42 : decode cL_moves 42 = .ok (.iconst (-1), 1) := by decide +kernel
theorem dL_moves_43 : decode cL_moves 43 = .ok (.if_icmp .ne 7, 3) := by decide +kernel
theorem dL_moves_46 : decode cL_moves 46 = .ok (.iconst 1, 1) := by decide +kernel
theorem dL_moves_47 : decode cL_moves 47 = .ok (.goto 4, 3) := by decide +kernel
theorem dL_moves_50 : decode cL_moves 50 = .ok (.iconst 0, 1) := by decide +kernel
theorem dL_moves_51 : decode cL_moves 51 = .ok (.if_icmp .ne 7, 3) := by decide +kernel
theorem dL_moves_54 : decode cL_moves 54 = .ok (.iconst 1, 1) := by decide +kernel
theorem dL_moves_55 : decode cL_moves 55 = .ok (.goto 4, 3) := by decide +kernel
theorem dL_moves_58 : decode cL_moves 58 = .ok (.iconst 0, 1) := by decide +kernel
theorem dL_moves_59 : decode cL_moves 59 = .ok (.istore 6, 2) := by decide +kernel
theorem dL_moves_61 : decode cL_moves 61 = .ok (.iload 4, 2) := by decide +kernel
theorem dL_moves_63 : decode cL_moves 63 = .ok (.iconst (-1), 1) := by decide +kernel
theorem dL_moves_64 : decode cL_moves 64 = .ok (.if_icmp .eq 146, 3) := by decide +kernel
theorem dL_moves_67 : decode cL_moves 67 = .ok (.iload 6, 2) := by decide +kernel
theorem dL_moves_69 : decode cL_moves 69 = .ok (.ifCond .eq 141, 3) := by decide +kernel
theorem dL_moves_72 : decode cL_moves 72 = .ok (.aload_n 0, 1) := by decide +kernel
theorem dL_moves_73 : decode cL_moves 73 = .ok (.iconst 3, 1) := by decide +kernel
theorem dL_moves_74 : decode cL_moves 74 = .ok (.iload 4, 2) := by decide +kernel
theorem dL_moves_76 : decode cL_moves 76 = .ok (.iconst 3, 1) := by decide +kernel
theorem dL_moves_77 : decode cL_moves 77 = .ok (.iconst 0, 1) := by decide +kernel
theorem dL_moves_78 : decode cL_moves 78 = .ok (.invokestatic 169, 3) := by decide +kernel
theorem dL_moves_81 : decode cL_moves 81 = .ok (.istore 7, 2) := by decide +kernel
theorem dL_moves_83 : decode cL_moves 83 = .ok (.iload 5, 2) := by decide +kernel
theorem dL_moves_85 : decode cL_moves 85 = .ok (.iload 7, 2) := by decide +kernel
theorem dL_moves_87 : decode cL_moves 87 = .ok (.if_icmp .ge 11, 3) := by decide +kernel
theorem dL_moves_90 : decode cL_moves 90 = .ok (.iload 7, 2) := by decide +kernel
theorem dL_moves_92 : decode cL_moves 92 = .ok (.iload 5, 2) := by decide +kernel
theorem dL_moves_94 : decode cL_moves 94 = .ok (.isub, 1) := by decide +kernel
theorem dL_moves_95 : decode cL_moves 95 = .ok (.goto 8, 3) := by decide +kernel
theorem dL_moves_98 : decode cL_moves 98 = .ok (.iload 5, 2) := by decide +kernel
theorem dL_moves_100 : decode cL_moves 100 = .ok (.iload 7, 2) := by decide +kernel
theorem dL_moves_102 : decode cL_moves 102 = .ok (.isub, 1) := by decide +kernel
theorem dL_moves_103 : decode cL_moves 103 = .ok (.istore 8, 2) := by decide +kernel
theorem dL_moves_105 : decode cL_moves 105 = .ok (.aload_n 0, 1) := by decide +kernel
theorem dL_moves_106 : decode cL_moves 106 = .ok (.bipush 14, 2) := by decide +kernel
theorem dL_moves_108 : decode cL_moves 108 = .ok (.iload_n 3, 1) := by decide +kernel
theorem dL_moves_109 : decode cL_moves 109 = .ok (.iconst 0, 1) := by decide +kernel
theorem dL_moves_110 : decode cL_moves 110 = .ok (.iconst 0, 1) := by decide +kernel
theorem dL_moves_111 : decode cL_moves 111 = .ok (.invokestatic 169, 3) := by decide +kernel
theorem dL_moves_114 : decode cL_moves 114 = .ok (.ifCond .le 93, 3) := by decide +kernel
theorem dL_moves_117 : decode cL_moves 117 = .ok (.iload 8, 2) := by decide +kernel
theorem dL_moves_119 : decode cL_moves 119 = .ok (.ifCond .le 88, 3) := by decide +kernel
theorem dL_moves_122 : decode cL_moves 122 = .ok (.aload_n 0, 1) := by decide +kernel
theorem dL_moves_123 : decode cL_moves 123 = .ok (.bipush 10, 2) := by decide +kernel
theorem dL_moves_125 : decode cL_moves 125 = .ok (.iload 4, 2) := by decide +kernel
theorem dL_moves_127 : decode cL_moves 127 = .ok (.iload 5, 2) := by decide +kernel
theorem dL_moves_129 : decode cL_moves 129 = .ok (.iconst 0, 1) := by decide +kernel
theorem dL_moves_130 : decode cL_moves 130 = .ok (.invokestatic 169, 3) := by decide +kernel
theorem dL_moves_133 : decode cL_moves 133 = .ok (.iload 8, 2) := by decide +kernel
theorem dL_moves_135 : decode cL_moves 135 = .ok (.if_icmp .ne 72, 3) := by decide +kernel
theorem dL_moves_138 : decode cL_moves 138 = .ok (.aload_n 1, 1) := by decide +kernel
theorem dL_moves_139 : decode cL_moves 139 = .ok (.bipush 10, 2) := by decide +kernel
theorem dL_moves_141 : decode cL_moves 141 = .ok (.iload 4, 2) := by decide +kernel
theorem dL_moves_143 : decode cL_moves 143 = .ok (.iload 5, 2) := by decide +kernel
theorem dL_moves_145 : decode cL_moves 145 = .ok (.iconst 0, 1) := by decide +kernel
theorem dL_moves_146 : decode cL_moves 146 = .ok (.invokestatic 169, 3) := by decide +kernel
theorem dL_moves_149 : decode cL_moves 149 = .ok (.iload 8, 2) := by decide +kernel
theorem dL_moves_151 : decode cL_moves 151 = .ok (.if_icmp .ne 56, 3) := by decide +kernel
theorem dL_moves_154 : decode cL_moves 154 = .ok (.aload_n 0, 1) := by decide +kernel
theorem dL_moves_155 : decode cL_moves 155 = .ok (.bipush 14, 2) := by decide +kernel
theorem dL_moves_157 : decode cL_moves 157 = .ok (.iload_n 3, 1) := by decide +kernel
theorem dL_moves_158 : decode cL_moves 158 = .ok (.iconst 0, 1) := by decide +kernel
theorem dL_moves_159 : decode cL_moves 159 = .ok (.iconst 0, 1) := by decide +kernel
theorem dL_moves_160 : decode cL_moves 160 = .ok (.invokestatic 169, 3) := by decide +kernel
theorem dL_moves_163 : decode cL_moves 163 = .ok (.ifCond .ne 44, 3) := by decide +kernel
theorem dL_moves_166 : decode cL_moves 166 = .ok (.aload_n 0, 1) := by decide +kernel
theorem dL_moves_167 : decode cL_moves 167 = .ok (.iconst 3, 1) := by decide +kernel
theorem dL_moves_168 : decode cL_moves 168 = .ok (.iload 4, 2) := by decide +kernel
theorem dL_moves_170 : decode cL_moves 170 = .ok (.iconst 3, 1) := by decide +kernel
theorem dL_moves_171 : decode cL_moves 171 = .ok (.iconst 0, 1) := by decide +kernel
theorem dL_moves_172 : decode cL_moves 172 = .ok (.invokestatic 169, 3) := by decide +kernel
theorem dL_moves_175 : decode cL_moves 175 = .ok (.iload 5, 2) := by decide +kernel
theorem dL_moves_177 : decode cL_moves 177 = .ok (.if_icmp .ne 30, 3) := by decide +kernel
theorem dL_moves_180 : decode cL_moves 180 = .ok (.aload_n 0, 1) := by decide +kernel
theorem dL_moves_181 : decode cL_moves 181 = .ok (.aload_n 1, 1) := by decide +kernel
theorem dL_moves_182 : decode cL_moves 182 = .ok (.iconst 1, 1) := by decide +kernel
theorem dL_moves_183 : decode cL_moves 183 = .ok (.invokestatic 221, 3) := by decide +kernel
theorem dL_moves_186 : decode cL_moves 186 = .ok (.ifCond .eq 21, 3) := by decide +kernel
theorem dL_moves_189 : decode cL_moves 189 = .ok (.aload_n 0, 1) := by decide +kernel
theorem dL_moves_190 : decode cL_moves 190 = .ok (.iconst 3, 1) := by decide +kernel
theorem dL_moves_191 : decode cL_moves 191 = .ok (.iload 4, 2) := by decide +kernel
theorem dL_moves_193 : decode cL_moves 193 = .ok (.iconst 3, 1) := by decide +kernel
theorem dL_moves_194 : decode cL_moves 194 = .ok (.iconst 0, 1) := by decide +kernel
theorem dL_moves_195 : decode cL_moves 195 = .ok (.invokestatic 169, 3) := by decide +kernel
theorem dL_moves_198 : decode cL_moves 198 = .ok (.iload 7, 2) := by decide +kernel
theorem dL_moves_200 : decode cL_moves 200 = .ok (.if_icmp .ne 7, 3) := by decide +kernel
theorem dL_moves_203 : decode cL_moves 203 = .ok (.iconst 1, 1) := by decide +kernel
theorem dL_moves_204 : decode cL_moves 204 = .ok (.goto 4, 3) := by decide +kernel
theorem dL_moves_207 : decode cL_moves 207 = .ok (.iconst 0, 1) := by decide +kernel
theorem dL_moves_208 : decode cL_moves 208 = .ok (.istore 6, 2) := by decide +kernel
theorem dL_moves_210 : decode cL_moves 210 = .ok (.iload_n 2, 1) := by decide +kernel
theorem dL_moves_211 : decode cL_moves 211 = .ok (.bipush 7, 2) := by decide +kernel
theorem dL_moves_213 : decode cL_moves 213 = .ok (.idiv, 1) := by decide +kernel
theorem dL_moves_214 : decode cL_moves 214 = .ok (.aload_n 0, 1) := by decide +kernel
theorem dL_moves_215 : decode cL_moves 215 = .ok (.iconst 2, 1) := by decide +kernel
theorem dL_moves_216 : decode cL_moves 216 = .ok (.iconst 0, 1) := by decide +kernel
theorem dL_moves_217 : decode cL_moves 217 = .ok (.iconst 0, 1) := by decide +kernel
theorem dL_moves_218 : decode cL_moves 218 = .ok (.iconst 0, 1) := by decide +kernel
theorem dL_moves_219 : decode cL_moves 219 = .ok (.invokestatic 169, 3) := by decide +kernel
theorem dL_moves_222 : decode cL_moves 222 = .ok (.irem, 1) := by decide +kernel
theorem dL_moves_223 : decode cL_moves 223 = .ok (.istore 7, 2) := by decide +kernel
theorem dL_moves_225 : decode cL_moves 225 = .ok (.aload_n 0, 1) := by decide +kernel
theorem dL_moves_226 : decode cL_moves 226 = .ok (.iconst 3, 1) := by decide +kernel
theorem dL_moves_227 : decode cL_moves 227 = .ok (.iload 7, 2) := by decide +kernel
theorem dL_moves_229 : decode cL_moves 229 = .ok (.iconst 3, 1) := by decide +kernel
theorem dL_moves_230 : decode cL_moves 230 = .ok (.iconst 0, 1) := by decide +kernel
theorem dL_moves_231 : decode cL_moves 231 = .ok (.invokestatic 169, 3) := by decide +kernel
theorem dL_moves_234 : decode cL_moves 234 = .ok (.istore 8, 2) := by decide +kernel
theorem dL_moves_236 : decode cL_moves 236 = .ok (.iload 8, 2) := by decide +kernel
theorem dL_moves_238 : decode cL_moves 238 = .ok (.iconst (-1), 1) := by decide +kernel
theorem dL_moves_239 : decode cL_moves 239 = .ok (.if_icmp .eq 228, 3) := by decide +kernel
theorem dL_moves_242 : decode cL_moves 242 = .ok (.iload 6, 2) := by decide +kernel
theorem dL_moves_244 : decode cL_moves 244 = .ok (.ifCond .eq 223, 3) := by decide +kernel
theorem dL_moves_247 : decode cL_moves 247 = .ok (.iload 8, 2) := by decide +kernel
theorem dL_moves_249 : decode cL_moves 249 = .ok (.aload_n 0, 1) := by decide +kernel
theorem dL_moves_250 : decode cL_moves 250 = .ok (.iconst 3, 1) := by decide +kernel
theorem dL_moves_251 : decode cL_moves 251 = .ok (.iload 7, 2) := by decide +kernel
theorem dL_moves_253 : decode cL_moves 253 = .ok (.iconst 0, 1) := by decide +kernel
theorem dL_moves_254 : decode cL_moves 254 = .ok (.iconst 0, 1) := by decide +kernel
theorem dL_moves_255 : decode cL_moves 255 = .ok (.invokestatic 169, 3) := by decide +kernel
theorem dL_moves_258 : decode cL_moves 258 = .ok (.iadd, 1) := by decide +kernel
theorem dL_moves_259 : decode cL_moves 259 = .ok (.istore 9, 2) := by decide +kernel
theorem dL_moves_261 : decode cL_moves 261 = .ok (.iload 8, 2) := by decide +kernel
theorem dL_moves_263 : decode cL_moves 263 = .ok (.istore 10, 2) := by decide +kernel
theorem dL_moves_265 : decode cL_moves 265 = .ok (.iload 9, 2) := by decide +kernel
theorem dL_moves_267 : decode cL_moves 267 = .ok (.istore 11, 2) := by decide +kernel
theorem dL_moves_269 : decode cL_moves 269 = .ok (.iload 10, 2) := by decide +kernel
theorem dL_moves_271 : decode cL_moves 271 = .ok (.ifCond .le 24, 3) := by decide +kernel
theorem dL_moves_274 : decode cL_moves 274 = .ok (.aload_n 0, 1) := by decide +kernel
theorem dL_moves_275 : decode cL_moves 275 = .ok (.iconst 4, 1) := by decide +kernel
theorem dL_moves_276 : decode cL_moves 276 = .ok (.iload 10, 2) := by decide +kernel
theorem dL_moves_278 : decode cL_moves 278 = .ok (.iconst 1, 1) := by decide +kernel
theorem dL_moves_279 : decode cL_moves 279 = .ok (.isub, 1) := by decide +kernel
theorem dL_moves_280 : decode cL_moves 280 = .ok (.iconst 0, 1) := by decide +kernel
theorem dL_moves_281 : decode cL_moves 281 = .ok (.iconst 0, 1) := by decide +kernel
theorem dL_moves_282 : decode cL_moves 282 = .ok (.invokestatic 169, 3) := by decide +kernel
theorem dL_moves_285 : decode cL_moves 285 = .ok (.iconst (-1), 1) := by decide +kernel
theorem dL_moves_286 : decode cL_moves 286 = .ok (.if_icmp .ne 9, 3) := by decide +kernel
theorem dL_moves_289 : decode cL_moves 289 = .ok (.iinc 10 (-1), 3) := by decide +kernel
theorem dL_moves_292 : decode cL_moves 292 = .ok (.goto (-23), 3) := by decide +kernel
theorem dL_moves_295 : decode cL_moves 295 = .ok (.iload 11, 2) := by decide +kernel
theorem dL_moves_297 : decode cL_moves 297 = .ok (.bipush 80, 2) := by decide +kernel
theorem dL_moves_299 : decode cL_moves 299 = .ok (.if_icmp .ge 22, 3) := by decide +kernel
theorem dL_moves_302 : decode cL_moves 302 = .ok (.aload_n 0, 1) := by decide +kernel
theorem dL_moves_303 : decode cL_moves 303 = .ok (.iconst 4, 1) := by decide +kernel
theorem dL_moves_304 : decode cL_moves 304 = .ok (.iload 11, 2) := by decide +kernel
theorem dL_moves_306 : decode cL_moves 306 = .ok (.iconst 0, 1) := by decide +kernel
theorem dL_moves_307 : decode cL_moves 307 = .ok (.iconst 0, 1) := by decide +kernel
theorem dL_moves_308 : decode cL_moves 308 = .ok (.invokestatic 169, 3) := by decide +kernel
theorem dL_moves_311 : decode cL_moves 311 = .ok (.iconst (-1), 1) := by decide +kernel
theorem dL_moves_312 : decode cL_moves 312 = .ok (.if_icmp .ne 9, 3) := by decide +kernel
theorem dL_moves_315 : decode cL_moves 315 = .ok (.iinc 11 1, 3) := by decide +kernel
theorem dL_moves_318 : decode cL_moves 318 = .ok (.goto (-23), 3) := by decide +kernel
theorem dL_moves_321 : decode cL_moves 321 = .ok (.iload_n 2, 1) := by decide +kernel
theorem dL_moves_322 : decode cL_moves 322 = .ok (.sipush 300, 3) := by decide +kernel
theorem dL_moves_325 : decode cL_moves 325 = .ok (.idiv, 1) := by decide +kernel
theorem dL_moves_326 : decode cL_moves 326 = .ok (.bipush 80, 2) := by decide +kernel
theorem dL_moves_328 : decode cL_moves 328 = .ok (.irem, 1) := by decide +kernel
theorem dL_moves_329 : decode cL_moves 329 = .ok (.istore 12, 2) := by decide +kernel
theorem dL_moves_331 : decode cL_moves 331 = .ok (.iload 12, 2) := by decide +kernel
theorem dL_moves_333 : decode cL_moves 333 = .ok (.iload 10, 2) := by decide +kernel
theorem dL_moves_335 : decode cL_moves 335 = .ok (.if_icmp .lt 20, 3) := by decide +kernel
theorem dL_moves_338 : decode cL_moves 338 = .ok (.iload 12, 2) := by decide +kernel
theorem dL_moves_340 : decode cL_moves 340 = .ok (.iload 9, 2) := by decide +kernel
theorem dL_moves_342 : decode cL_moves 342 = .ok (.iadd, 1) := by decide +kernel
theorem dL_moves_343 : decode cL_moves 343 = .ok (.iload 8, 2) := by decide +kernel
theorem dL_moves_345 : decode cL_moves 345 = .ok (.isub, 1) := by decide +kernel
theorem dL_moves_346 : decode cL_moves 346 = .ok (.iload 11, 2) := by decide +kernel
theorem dL_moves_348 : decode cL_moves 348 = .ok (.if_icmp .gt 7, 3) := by decide +kernel
theorem dL_moves_351 : decode cL_moves 351 = .ok (.iconst 1, 1) := by decide +kernel
theorem dL_moves_352 : decode cL_moves 352 = .ok (.goto 4, 3) := by decide +kernel
theorem dL_moves_355 : decode cL_moves 355 = .ok (.iconst 0, 1) := by decide +kernel
theorem dL_moves_356 : decode cL_moves 356 = .ok (.istore 13, 2) := by decide +kernel
theorem dL_moves_358 : decode cL_moves 358 = .ok (.iload 12, 2) := by decide +kernel
theorem dL_moves_360 : decode cL_moves 360 = .ok (.iload 8, 2) := by decide +kernel
theorem dL_moves_362 : decode cL_moves 362 = .ok (.if_icmp .ge 11, 3) := by decide +kernel
theorem dL_moves_365 : decode cL_moves 365 = .ok (.iload 8, 2) := by decide +kernel
theorem dL_moves_367 : decode cL_moves 367 = .ok (.iload 12, 2) := by decide +kernel
theorem dL_moves_369 : decode cL_moves 369 = .ok (.isub, 1) := by decide +kernel
theorem dL_moves_370 : decode cL_moves 370 = .ok (.goto 8, 3) := by decide +kernel
theorem dL_moves_373 : decode cL_moves 373 = .ok (.iload 12, 2) := by decide +kernel
theorem dL_moves_375 : decode cL_moves 375 = .ok (.iload 8, 2) := by decide +kernel
theorem dL_moves_377 : decode cL_moves 377 = .ok (.isub, 1) := by decide +kernel
theorem dL_moves_378 : decode cL_moves 378 = .ok (.istore 14, 2) := by decide +kernel
theorem dL_moves_380 : decode cL_moves 380 = .ok (.aload_n 0, 1) := by decide +kernel
theorem dL_moves_381 : decode cL_moves 381 = .ok (.bipush 10, 2) := by decide +kernel
theorem dL_moves_383 : decode cL_moves 383 = .ok (.iload 7, 2) := by decide +kernel
theorem dL_moves_385 : decode cL_moves 385 = .ok (.iload 12, 2) := by decide +kernel
theorem dL_moves_387 : decode cL_moves 387 = .ok (.iconst 0, 1) := by decide +kernel
theorem dL_moves_388 : decode cL_moves 388 = .ok (.invokestatic 169, 3) := by decide +kernel
theorem dL_moves_391 : decode cL_moves 391 = .ok (.iload 13, 2) := by decide +kernel
theorem dL_moves_393 : decode cL_moves 393 = .ok (.ifCond .eq 8, 3) := by decide +kernel
theorem dL_moves_396 : decode cL_moves 396 = .ok (.iload 14, 2) := by decide +kernel
theorem dL_moves_398 : decode cL_moves 398 = .ok (.goto 5, 3) := by decide +kernel
theorem dL_moves_401 : decode cL_moves 401 = .ok (.ldc 18, 2) := by decide +kernel
theorem dL_moves_403 : decode cL_moves 403 = .ok (.if_icmp .ne 61, 3) := by decide +kernel
theorem dL_moves_406 : decode cL_moves 406 = .ok (.aload_n 1, 1) := by decide +kernel
theorem dL_moves_407 : decode cL_moves 407 = .ok (.bipush 10, 2) := by decide +kernel
theorem dL_moves_409 : decode cL_moves 409 = .ok (.iload 7, 2) := by decide +kernel
theorem dL_moves_411 : decode cL_moves 411 = .ok (.iload 12, 2) := by decide +kernel
theorem dL_moves_413 : decode cL_moves 413 = .ok (.iconst 0, 1) := by decide +kernel
theorem dL_moves_414 : decode cL_moves 414 = .ok (.invokestatic 169, 3) := by decide +kernel
theorem dL_moves_417 : decode cL_moves 417 = .ok (.iload 13, 2) := by decide +kernel
theorem dL_moves_419 : decode cL_moves 419 = .ok (.ifCond .eq 8, 3) := by decide +kernel
theorem dL_moves_422 : decode cL_moves 422 = .ok (.iload 14, 2) := by decide +kernel
theorem dL_moves_424 : decode cL_moves 424 = .ok (.goto 5, 3) := by decide +kernel
theorem dL_moves_427 : decode cL_moves 427 = .ok (.ldc 18, 2) := by decide +kernel
theorem dL_moves_429 : decode cL_moves 429 = .ok (.if_icmp .ne 35, 3) := by decide +kernel
theorem dL_moves_432 : decode cL_moves 432 = .ok (.iload 13, 2) := by decide +kernel
theorem dL_moves_434 : decode cL_moves 434 = .ok (.ifCond .eq 12, 3) := by decide +kernel
theorem dL_moves_437 : decode cL_moves 437 = .ok (.aload_n 0, 1) := by decide +kernel
theorem dL_moves_438 : decode cL_moves 438 = .ok (.aload_n 1, 1) := by decide +kernel
theorem dL_moves_439 : decode cL_moves 439 = .ok (.iconst 1, 1) := by decide +kernel
theorem dL_moves_440 : decode cL_moves 440 = .ok (.invokestatic 221, 3) := by decide +kernel
theorem dL_moves_443 : decode cL_moves 443 = .ok (.ifCond .eq 21, 3) := by decide +kernel
theorem dL_moves_446 : decode cL_moves 446 = .ok (.aload_n 0, 1) := by decide +kernel
theorem dL_moves_447 : decode cL_moves 447 = .ok (.iconst 3, 1) := by decide +kernel
theorem dL_moves_448 : decode cL_moves 448 = .ok (.iload 7, 2) := by decide +kernel
theorem dL_moves_450 : decode cL_moves 450 = .ok (.iconst 3, 1) := by decide +kernel
theorem dL_moves_451 : decode cL_moves 451 = .ok (.iconst 0, 1) := by decide +kernel
theorem dL_moves_452 : decode cL_moves 452 = .ok (.invokestatic 169, 3) := by decide +kernel
theorem dL_moves_455 : decode cL_moves 455 = .ok (.iload 8, 2) := by decide +kernel
theorem dL_moves_457 : decode cL_moves 457 = .ok (.if_icmp .ne 7, 3) := by decide +kernel
theorem dL_moves_460 : decode cL_moves 460 = .ok (.iconst 1, 1) := by decide +kernel
theorem dL_moves_461 : decode cL_moves 461 = .ok (.goto 4, 3) := by decide +kernel
theorem dL_moves_464 : decode cL_moves 464 = .ok (.iconst 0, 1) := by decide +kernel
