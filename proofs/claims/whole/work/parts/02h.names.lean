theorem dX7_readCommand_193 : decode cX7_readCommand 193 = .ok (.ifCond .eq 26, 3) := by decide +kernel
theorem dX7_readCommand_196 : decode cX7_readCommand 196 = .ok (.aload_n 1, 1) := by decide +kernel
theorem dX7_readCommand_197 : decode cX7_readCommand 197 = .ok (.iload_n 3, 1) := by decide +kernel
theorem dX7_readCommand_198 : decode cX7_readCommand 198 = .ok (.iload_n 2, 1) := by decide +kernel
theorem dX7_readCommand_199 : decode cX7_readCommand 199 = .ok (.bipush 108, 2) := by decide +kernel
theorem dX7_readCommand_201 : decode cX7_readCommand 201 = .ok (.if_icmp .ne 7, 3) := by decide +kernel
theorem dX7_readCommand_204 : decode cX7_readCommand 204 = .ok (.iconst 2, 1) := by decide +kernel
theorem dX7_readCommand_205 : decode cX7_readCommand 205 = .ok (.goto 4, 3) := by decide +kernel
theorem dX7_readCommand_208 : decode cX7_readCommand 208 = .ok (.iconst 4, 1) := by decide +kernel
theorem dX7_readCommand_209 : decode cX7_readCommand 209 = .ok (.invokestatic 109, 3) := by decide +kernel
theorem dX7_readCommand_212 : decode cX7_readCommand 212 = .ok (.ifCond .lt 7, 3) := by decide +kernel
theorem dX7_readCommand_215 : decode cX7_readCommand 215 = .ok (.iconst 1, 1) := by decide +kernel
theorem dX7_readCommand_216 : decode cX7_readCommand 216 = .ok (.goto 4, 3) := by decide +kernel
theorem dX7_readCommand_219 : decode cX7_readCommand 219 = .ok (.iconst 0, 1) := by decide +kernel
theorem dX7_readCommand_220 : decode cX7_readCommand 220 = .ok (.invokevirtual 164, 3) := by decide +kernel
theorem dX7_readCommand_223 : decode cX7_readCommand 223 = .ok (.ifCond .eq 7, 3) := by decide +kernel
theorem dX7_readCommand_226 : decode cX7_readCommand 226 = .ok (.iconst 1, 1) := by decide +kernel
theorem dX7_readCommand_227 : decode cX7_readCommand 227 = .ok (.goto 4, 3) := by decide +kernel
theorem dX7_readCommand_230 : decode cX7_readCommand 230 = .ok (.iconst 0, 1) := by decide +kernel
theorem dX7_readCommand_231 : decode cX7_readCommand 231 = .ok (.ireturn, 1) := by decide +kernel
theorem dX7_readCommand_232 : decode cX7_readCommand 232 = .ok (.aload_n 0, 1) := by decide +kernel
theorem dX7_readCommand_233 : decode cX7_readCommand 233 = .ok (.invokevirtual 175, 3) := by decide +kernel
theorem dX7_readCommand_236 : decode cX7_readCommand 236 = .ok (.istore_n 3, 1) := by decide +kernel
theorem dX7_readCommand_237 : decode cX7_readCommand 237 = .ok (.aload_n 0, 1) := by decide +kernel
theorem dX7_readCommand_238 : decode cX7_readCommand 238 = .ok (.iload_n 3, 1) := by decide +kernel
theorem dX7_readCommand_239 : decode cX7_readCommand 239 = .ok (.invokevirtual 152, 3) := by decide +kernel
theorem dX7_readCommand_242 : decode cX7_readCommand 242 = .ok (.istore 4, 2) := by decide +kernel
theorem dX7_readCommand_244 : decode cX7_readCommand 244 = .ok (.iload 4, 2) := by decide +kernel
theorem dX7_readCommand_246 : decode cX7_readCommand 246 = .ok (.iconst (-1), 1) := by decide +kernel
theorem dX7_readCommand_247 : decode cX7_readCommand 247 = .ok (.if_icmp .eq 47, 3) := by decide +kernel
theorem dX7_readCommand_250 : decode cX7_readCommand 250 = .ok (.aload_n 0, 1) := by decide +kernel
theorem dX7_readCommand_251 : decode cX7_readCommand 251 = .ok (.aload_n 1, 1) := by decide +kernel
theorem dX7_readCommand_252 : decode cX7_readCommand 252 = .ok (.iload_n 3, 1) := by decide +kernel
theorem dX7_readCommand_253 : decode cX7_readCommand 253 = .ok (.invokestatic 44, 3) := by decide +kernel
theorem dX7_readCommand_256 : decode cX7_readCommand 256 = .ok (.ifCond .eq 27, 3) := by decide +kernel
theorem dX7_readCommand_259 : decode cX7_readCommand 259 = .ok (.aload_n 1, 1) := by decide +kernel
theorem dX7_readCommand_260 : decode cX7_readCommand 260 = .ok (.iload_n 3, 1) := by decide +kernel
theorem dX7_readCommand_261 : decode cX7_readCommand 261 = .ok (.iload 4, 2) := by decide +kernel
theorem dX7_readCommand_263 : decode cX7_readCommand 263 = .ok (.invokestatic 179, 3) := by decide +kernel
theorem dX7_readCommand_266 : decode cX7_readCommand 266 = .ok (.ifCond .eq 17, 3) := by decide +kernel
theorem dX7_readCommand_269 : decode cX7_readCommand 269 = .ok (.aload_n 1, 1) := by decide +kernel
theorem dX7_readCommand_270 : decode cX7_readCommand 270 = .ok (.iload_n 3, 1) := by decide +kernel
theorem dX7_readCommand_271 : decode cX7_readCommand 271 = .ok (.iload 4, 2) := by decide +kernel
theorem dX7_readCommand_273 : decode cX7_readCommand 273 = .ok (.invokestatic 183, 3) := by decide +kernel
theorem dX7_readCommand_276 : decode cX7_readCommand 276 = .ok (.ifCond .lt 7, 3) := by decide +kernel
theorem dX7_readCommand_279 : decode cX7_readCommand 279 = .ok (.iconst 1, 1) := by decide +kernel
theorem dX7_readCommand_280 : decode cX7_readCommand 280 = .ok (.goto 4, 3) := by decide +kernel
theorem dX7_readCommand_283 : decode cX7_readCommand 283 = .ok (.iconst 0, 1) := by decide +kernel
theorem dX7_readCommand_284 : decode cX7_readCommand 284 = .ok (.invokevirtual 164, 3) := by decide +kernel
theorem dX7_readCommand_287 : decode cX7_readCommand 287 = .ok (.ifCond .eq 7, 3) := by decide +kernel
theorem dX7_readCommand_290 : decode cX7_readCommand 290 = .ok (.iconst 1, 1) := by decide +kernel
theorem dX7_readCommand_291 : decode cX7_readCommand 291 = .ok (.goto 4, 3) := by decide +kernel
theorem dX7_readCommand_294 : decode cX7_readCommand 294 = .ok (.iconst 0, 1) := by decide +kernel
theorem dX7_readCommand_295 : decode cX7_readCommand 295 = .ok (.ireturn, 1) := by decide +kernel
theorem dX7_readCommand_296 : decode cX7_readCommand 296 = .ok (.aload_n 0, 1) := by decide +kernel
theorem dX7_readCommand_297 : decode cX7_readCommand 297 = .ok (.iconst 0, 1) := by decide +kernel
theorem dX7_readCommand_298 : decode cX7_readCommand 298 = .ok (.iconst 1, 1) := by decide +kernel
theorem dX7_readCommand_299 : decode cX7_readCommand 299 = .ok (.iconst 0, 1) := by decide +kernel
theorem dX7_readCommand_300 : decode cX7_readCommand 300 = .ok (.iconst 2, 1) := by decide +kernel
theorem dX7_readCommand_301 : decode cX7_readCommand 301 = .ok (.invokevirtual 148, 3) := by decide +kernel
theorem dX7_readCommand_304 : decode cX7_readCommand 304 = .ok (.istore_n 3, 1) := by decide +kernel
theorem dX7_readCommand_305 : decode cX7_readCommand 305 = .ok (.iload_n 3, 1) := by decide +kernel
theorem dX7_readCommand_306 : decode cX7_readCommand 306 = .ok (.iconst (-1), 1) := by decide +kernel
theorem dX7_readCommand_307 : decode cX7_readCommand 307 = .ok (.if_icmp .eq 28, 3) := by decide +kernel
theorem dX7_readCommand_310 : decode cX7_readCommand 310 = .ok (.aload_n 0, 1) := by decide +kernel
theorem dX7_readCommand_311 : decode cX7_readCommand 311 = .ok (.aload_n 1, 1) := by decide +kernel
theorem dX7_readCommand_312 : decode cX7_readCommand 312 = .ok (.iconst 0, 1) := by decide +kernel
theorem dX7_readCommand_313 : decode cX7_readCommand 313 = .ok (.iload_n 3, 1) := by decide +kernel
theorem dX7_readCommand_314 : decode cX7_readCommand 314 = .ok (.invokestatic 186, 3) := by decide +kernel
theorem dX7_readCommand_317 : decode cX7_readCommand 317 = .ok (.ifCond .lt 7, 3) := by decide +kernel
theorem dX7_readCommand_320 : decode cX7_readCommand 320 = .ok (.iconst 1, 1) := by decide +kernel
theorem dX7_readCommand_321 : decode cX7_readCommand 321 = .ok (.goto 4, 3) := by decide +kernel
theorem dX7_readCommand_324 : decode cX7_readCommand 324 = .ok (.iconst 0, 1) := by decide +kernel
theorem dX7_readCommand_325 : decode cX7_readCommand 325 = .ok (.invokevirtual 164, 3) := by decide +kernel
theorem dX7_readCommand_328 : decode cX7_readCommand 328 = .ok (.ifCond .eq 7, 3) := by decide +kernel
theorem dX7_readCommand_331 : decode cX7_readCommand 331 = .ok (.iconst 1, 1) := by decide +kernel
theorem dX7_readCommand_332 : decode cX7_readCommand 332 = .ok (.goto 4, 3) := by decide +kernel
theorem dX7_readCommand_335 : decode cX7_readCommand 335 = .ok (.iconst 0, 1) := by decide +kernel
theorem dX7_readCommand_336 : decode cX7_readCommand 336 = .ok (.ireturn, 1) := by decide +kernel
theorem dX7_readCommand_337 : decode cX7_readCommand 337 = .ok (.aload_n 0, 1) := by decide +kernel
theorem dX7_readCommand_338 : decode cX7_readCommand 338 = .ok (.iconst 0, 1) := by decide +kernel
theorem dX7_readCommand_339 : decode cX7_readCommand 339 = .ok (.iconst 2, 1) := by decide +kernel
theorem dX7_readCommand_340 : decode cX7_readCommand 340 = .ok (.iconst 1, 1) := by decide +kernel
theorem dX7_readCommand_341 : decode cX7_readCommand 341 = .ok (.bipush 60, 2) := by decide +kernel
theorem dX7_readCommand_343 : decode cX7_readCommand 343 = .ok (.invokevirtual 148, 3) := by decide +kernel
theorem dX7_readCommand_346 : decode cX7_readCommand 346 = .ok (.istore_n 3, 1) := by decide +kernel
theorem dX7_readCommand_347 : decode cX7_readCommand 347 = .ok (.iload_n 3, 1) := by decide +kernel
theorem dX7_readCommand_348 : decode cX7_readCommand 348 = .ok (.iconst (-1), 1) := by decide +kernel
theorem dX7_readCommand_349 : decode cX7_readCommand 349 = .ok (.if_icmp .eq 27, 3) := by decide +kernel
theorem dX7_readCommand_352 : decode cX7_readCommand 352 = .ok (.aload_n 0, 1) := by decide +kernel
theorem dX7_readCommand_353 : decode cX7_readCommand 353 = .ok (.aload_n 1, 1) := by decide +kernel
theorem dX7_readCommand_354 : decode cX7_readCommand 354 = .ok (.iload_n 3, 1) := by decide +kernel
theorem dX7_readCommand_355 : decode cX7_readCommand 355 = .ok (.invokestatic 189, 3) := by decide +kernel
theorem dX7_readCommand_358 : decode cX7_readCommand 358 = .ok (.ifCond .lt 7, 3) := by decide +kernel
theorem dX7_readCommand_361 : decode cX7_readCommand 361 = .ok (.iconst 1, 1) := by decide +kernel
theorem dX7_readCommand_362 : decode cX7_readCommand 362 = .ok (.goto 4, 3) := by decide +kernel
theorem dX7_readCommand_365 : decode cX7_readCommand 365 = .ok (.iconst 0, 1) := by decide +kernel
theorem dX7_readCommand_366 : decode cX7_readCommand 366 = .ok (.invokevirtual 164, 3) := by decide +kernel
theorem dX7_readCommand_369 : decode cX7_readCommand 369 = .ok (.ifCond .eq 7, 3) := by decide +kernel
theorem dX7_readCommand_372 : decode cX7_readCommand 372 = .ok (.iconst 1, 1) := by decide +kernel
theorem dX7_readCommand_373 : decode cX7_readCommand 373 = .ok (.goto 4, 3) := by decide +kernel
theorem dX7_readCommand_376 : decode cX7_readCommand 376 = .ok (.iconst 0, 1) := by decide +kernel
theorem dX7_readCommand_377 : decode cX7_readCommand 377 = .ok (.ireturn, 1) := by decide +kernel
theorem dX7_readCommand_378 : decode cX7_readCommand 378 = .ok (.aload_n 0, 1) := by decide +kernel
theorem dX7_readCommand_379 : decode cX7_readCommand 379 = .ok (.dup, 1) := by decide +kernel
theorem dX7_readCommand_380 : decode cX7_readCommand 380 = .ok (.getfield 140, 3) := by decide +kernel
theorem dX7_readCommand_383 : decode cX7_readCommand 383 = .ok (.iconst 1, 1) := by decide +kernel
theorem dX7_readCommand_384 : decode cX7_readCommand 384 = .ok (.isub, 1) := by decide +kernel
theorem dX7_readCommand_385 : decode cX7_readCommand 385 = .ok (.putfield 140, 3) := by decide +kernel
theorem dX7_readCommand_388 : decode cX7_readCommand 388 = .ok (.iconst 0, 1) := by decide +kernel
theorem dX7_readCommand_389 : decode cX7_readCommand 389 = .ok (.ireturn, 1) := by decide +kernel
set_option maxRecDepth 20000 in
theorem ggX7_readText_X7_clear : GoodIn wsX7_readText wsX7_clear := goodIn_r _ [8] rfl (by decide +kernel)
set_option maxRecDepth 20000 in
theorem gX7_readText_X7_clear : GoodIn wsX7_readText (va_wsS RX7 32 yX7_clear wsX7_clear) := goodIn_app (goodIn_r _ [5, 6, 7] rfl (by decide +kernel)) ggX7_readText_X7_clear
set_option maxRecDepth 20000 in
theorem ggX7_readText_X7_readCommand : GoodIn wsX7_readText wsX7_readCommand := goodIn_r _ [12, 4, 2, 13, 14, 15, 7, 16, 3, 17, 18, 19, 20, 21, 22, 23, 24, 25, 26, 27, 28, 29, 30, 31, 32, 33, 34, 35, 36, 37, 38, 39, 40, 41, 42, 43, 44, 45, 1, 46, 47, 48, 49, 50, 51, 52, 53, 54, 55, 56, 57, 58, 59, 60, 61, 62, 63, 64, 65, 66, 67, 68, 69, 70, 71, 72, 73, 74, 75, 76, 77, 78, 79, 80, 81, 82, 83, 84, 85, 86, 87, 88, 89, 90, 91, 92, 93, 94, 95, 96, 97, 98, 99, 100, 101, 102, 103, 104, 105, 106, 107, 108, 109, 110, 111, 112, 113, 114, 115, 116, 117, 118, 119, 120, 121, 122, 123, 124, 125, 126, 127, 128, 129, 130] rfl (by decide +kernel)
set_option maxRecDepth 20000 in
theorem gX7_readText_X7_readCommand : GoodIn wsX7_readText (wsV RX7 192 RX7 yX7_readCommand wsX7_readCommand) := goodIn_app (goodIn_r _ [9, 10, 11, 7] rfl (by decide +kernel)) ggX7_readText_X7_readCommand
theorem dX7_readText_0 : decode cX7_readText 0 = .ok (.aload_n 1, 1) := by decide +kernel
theorem dX7_readText_1 : decode cX7_readText 1 = .ok (.invokestatic 32, 3) := by decide +kernel
theorem dX7_readText_4 : decode cX7_readText 4 = .ok (.aload_n 0, 1) := by decide +kernel
theorem dX7_readText_5 : decode cX7_readText 5 = .ok (.iconst 0, 1) := by decide +kernel
theorem dX7_readText_6 : decode cX7_readText 6 = .ok (.putfield 145, 3) := by decide +kernel
theorem dX7_readText_9 : decode cX7_readText 9 = .ok (.aload_n 0, 1) := by decide +kernel
theorem dX7_readText_10 : decode cX7_readText 10 = .ok (.iconst 0, 1) := by decide +kernel
theorem dX7_readText_11 : decode cX7_readText 11 = .ok (.putfield 140, 3) := by decide +kernel
theorem dX7_readText_14 : decode cX7_readText 14 = .ok (.aload_n 0, 1) := by decide +kernel
theorem dX7_readText_15 : decode cX7_readText 15 = .ok (.getfield 134, 3) := by decide +kernel
theorem dX7_readText_18 : decode cX7_readText 18 = .ok (.ifCond .eq 14, 3) := by decide +kernel
theorem dX7_readText_21 : decode cX7_readText 21 = .ok (.aload_n 0, 1) := by decide +kernel
theorem dX7_readText_22 : decode cX7_readText 22 = .ok (.getfield 7, 3) := by decide +kernel
theorem dX7_readText_25 : decode cX7_readText 25 = .ok (.iconst 0, 1) := by decide +kernel
theorem dX7_readText_26 : decode cX7_readText 26 = .ok (.iaload, 1) := by decide +kernel
theorem dX7_readText_27 : decode cX7_readText 27 = .ok (.bipush 83, 2) := by decide +kernel
theorem dX7_readText_29 : decode cX7_readText 29 = .ok (.if_icmp .eq 5, 3) := by decide +kernel
theorem dX7_readText_32 : decode cX7_readText 32 = .ok (.iconst 0, 1) := by decide +kernel
theorem dX7_readText_33 : decode cX7_readText 33 = .ok (.ireturn, 1) := by decide +kernel
theorem dX7_readText_34 : decode cX7_readText 34 = .ok (.aload_n 0, 1) := by decide +kernel
theorem dX7_readText_35 : decode cX7_readText 35 = .ok (.iconst 1, 1) := by decide +kernel
theorem dX7_readText_36 : decode cX7_readText 36 = .ok (.putfield 140, 3) := by decide +kernel
theorem dX7_readText_39 : decode cX7_readText 39 = .ok (.aload_n 0, 1) := by decide +kernel
theorem dX7_readText_40 : decode cX7_readText 40 = .ok (.getfield 140, 3) := by decide +kernel
theorem dX7_readText_43 : decode cX7_readText 43 = .ok (.aload_n 0, 1) := by decide +kernel
theorem dX7_readText_44 : decode cX7_readText 44 = .ok (.getfield 134, 3) := by decide +kernel
theorem dX7_readText_47 : decode cX7_readText 47 = .ok (.if_icmp .ge 16, 3) := by decide +kernel
theorem dX7_readText_50 : decode cX7_readText 50 = .ok (.aload_n 0, 1) := by decide +kernel
theorem dX7_readText_51 : decode cX7_readText 51 = .ok (.aload_n 1, 1) := by decide +kernel
theorem dX7_readText_52 : decode cX7_readText 52 = .ok (.invokevirtual 192, 3) := by decide +kernel
theorem dX7_readText_55 : decode cX7_readText 55 = .ok (.ifCond .ne (-16), 3) := by decide +kernel
theorem dX7_readText_58 : decode cX7_readText 58 = .ok (.aload_n 0, 1) := by decide +kernel
theorem dX7_readText_59 : decode cX7_readText 59 = .ok (.getfield 140, 3) := by decide +kernel
theorem dX7_readText_62 : decode cX7_readText 62 = .ok (.ireturn, 1) := by decide +kernel
theorem dX7_readText_63 : decode cX7_readText 63 = .ok (.iconst (-1), 1) := by decide +kernel
theorem dX7_readText_64 : decode cX7_readText 64 = .ok (.ireturn, 1) := by decide +kernel
set_option maxRecDepth 20000 in
theorem ggX7_errorPosition_X7_readText : GoodIn wsX7_errorPosition wsX7_readText := goodIn_r _ [7, 8, 9, 10, 11, 12, 13, 6, 14, 15, 16, 17, 18, 19, 20, 21, 22, 23, 24, 25, 26, 27, 28, 29, 30, 31, 32, 33, 34, 35, 36, 37, 38, 39, 40, 41, 42, 43, 44, 45, 46, 47, 48, 49, 50, 51, 52, 53, 54, 55, 56, 57, 58, 59, 60, 61, 62, 63, 64, 65, 66, 67, 68, 69, 70, 71, 72, 73, 74, 75, 76, 77, 78, 79, 80, 81, 82, 83, 84, 85, 86, 87, 88, 89, 90, 91, 92, 93, 94, 95, 96, 97, 98, 99, 100, 101, 102, 103, 104, 105, 106, 107, 108, 109, 110, 111, 112, 113, 114, 115, 116, 117, 118, 119, 120, 121, 122, 123, 124, 125, 126, 127, 128, 129, 130, 131, 132, 133, 134, 135, 136] rfl (by decide +kernel)
set_option maxRecDepth 20000 in
theorem gX7_errorPosition_X7_readText : GoodIn wsX7_errorPosition (wsV RX7 195 RX7 yX7_readText wsX7_readText) := goodIn_app (goodIn_r _ [3, 4, 5, 6] rfl (by decide +kernel)) ggX7_errorPosition_X7_readText
theorem dX7_errorPosition_0 : decode cX7_errorPosition 0 = .ok (.aload_n 0, 1) := by decide +kernel
theorem dX7_errorPosition_1 : decode cX7_errorPosition 1 = .ok (.iconst 0, 1) := by decide +kernel
theorem dX7_errorPosition_2 : decode cX7_errorPosition 2 = .ok (.putfield 36, 3) := by decide +kernel
theorem dX7_errorPosition_5 : decode cX7_errorPosition 5 = .ok (.aload_n 0, 1) := by decide +kernel
theorem dX7_errorPosition_6 : decode cX7_errorPosition 6 = .ok (.aload_n 0, 1) := by decide +kernel
theorem dX7_errorPosition_7 : decode cX7_errorPosition 7 = .ok (.getfield 16, 3) := by decide +kernel
theorem dX7_errorPosition_10 : decode cX7_errorPosition 10 = .ok (.invokevirtual 195, 3) := by decide +kernel
theorem dX7_errorPosition_13 : decode cX7_errorPosition 13 = .ok (.ireturn, 1) := by decide +kernel
set_option maxRecDepth 20000 in
theorem ggX7_load_X7_readText : GoodIn wsX7_load wsX7_readText := goodIn_r _ [10, 5, 11, 12, 13, 14, 15, 9, 16, 17, 18, 19, 20, 21, 22, 23, 24, 25, 26, 27, 28, 29, 30, 31, 32, 33, 34, 35, 36, 37, 38, 39, 40, 41, 42, 43, 44, 45, 46, 47, 48, 49, 50, 51, 52, 53, 54, 55, 56, 57, 58, 59, 60, 61, 62, 63, 64, 65, 66, 67, 68, 69, 70, 71, 72, 73, 74, 75, 76, 77, 78, 79, 80, 81, 82, 83, 84, 85, 86, 87, 88, 89, 90, 91, 92, 93, 94, 95, 96, 97, 98, 99, 100, 101, 102, 103, 104, 105, 106, 107, 108, 109, 110, 111, 112, 113, 114, 115, 116, 117, 118, 119, 120, 121, 122, 123, 124, 125, 126, 135, 136, 137, 138, 139, 140, 141, 142, 143, 144, 145, 146] rfl (by decide +kernel)
set_option maxRecDepth 20000 in
theorem gX7_load_X7_readText : GoodIn wsX7_load (wsV RX7 195 RX7 yX7_readText wsX7_readText) := goodIn_app (goodIn_r _ [6, 7, 8, 9] rfl (by decide +kernel)) ggX7_load_X7_readText
set_option maxRecDepth 20000 in
theorem ggX7_load_X7_refused : GoodIn wsX7_load wsX7_refused := goodIn_r _ [130, 131, 135, 136, 137, 138, 139, 140, 141, 142, 143, 144, 145, 146] rfl (by decide +kernel)
set_option maxRecDepth 20000 in
theorem gX7_load_X7_refused : GoodIn wsX7_load (wsV RX7 137 RX7 yX7_refused wsX7_refused) := goodIn_app (goodIn_r _ [127, 128, 129, 9] rfl (by decide +kernel)) ggX7_load_X7_refused
set_option maxRecDepth 20000 in
theorem ggX7_load_X7_copyState : GoodIn wsX7_load wsX7_copyState := goodIn_r _ [134] rfl (by decide +kernel)
set_option maxRecDepth 20000 in
theorem gX7_load_X7_copyState : GoodIn wsX7_load (va_wsS RX7 198 yX7_copyState wsX7_copyState) := goodIn_app (goodIn_r _ [132, 133, 9] rfl (by decide +kernel)) ggX7_load_X7_copyState
theorem dX7_load_0 : decode cX7_load 0 = .ok (.aload_n 0, 1) := by decide +kernel
theorem dX7_load_1 : decode cX7_load 1 = .ok (.aload_n 0, 1) := by decide +kernel
theorem dX7_load_2 : decode cX7_load 2 = .ok (.aload_n 0, 1) := by decide +kernel
theorem dX7_load_3 : decode cX7_load 3 = .ok (.getfield 16, 3) := by decide +kernel
theorem dX7_load_6 : decode cX7_load 6 = .ok (.invokevirtual 195, 3) := by decide +kernel
theorem dX7_load_9 : decode cX7_load 9 = .ok (.iconst (-1), 1) := by decide +kernel
theorem dX7_load_10 : decode cX7_load 10 = .ok (.if_icmp .ne 7, 3) := by decide +kernel
theorem dX7_load_13 : decode cX7_load 13 = .ok (.iconst 0, 1) := by decide +kernel
theorem dX7_load_14 : decode cX7_load 14 = .ok (.goto 4, 3) := by decide +kernel
theorem dX7_load_17 : decode cX7_load 17 = .ok (.iconst 1, 1) := by decide +kernel
theorem dX7_load_18 : decode cX7_load 18 = .ok (.invokevirtual 137, 3) := by decide +kernel
theorem dX7_load_21 : decode cX7_load 21 = .ok (.ifCond .eq 5, 3) := by decide +kernel
theorem dX7_load_24 : decode cX7_load 24 = .ok (.iconst 0, 1) := by decide +kernel
theorem dX7_load_25 : decode cX7_load 25 = .ok (.ireturn, 1) := by decide +kernel
theorem dX7_load_26 : decode cX7_load 26 = .ok (.aload_n 0, 1) := by decide +kernel
theorem dX7_load_27 : decode cX7_load 27 = .ok (.getfield 16, 3) := by decide +kernel
theorem dX7_load_30 : decode cX7_load 30 = .ok (.iconst 0, 1) := by decide +kernel
theorem dX7_load_31 : decode cX7_load 31 = .ok (.aload_n 0, 1) := by decide +kernel
theorem dX7_load_32 : decode cX7_load 32 = .ok (.getfield 13, 3) := by decide +kernel
theorem dX7_load_35 : decode cX7_load 35 = .ok (.iconst 0, 1) := by decide +kernel
theorem dX7_load_36 : decode cX7_load 36 = .ok (.invokestatic 198, 3) := by decide +kernel
theorem dX7_load_39 : decode cX7_load 39 = .ok (.aload_n 0, 1) := by decide +kernel
theorem dX7_load_40 : decode cX7_load 40 = .ok (.iconst 0, 1) := by decide +kernel
theorem dX7_load_41 : decode cX7_load 41 = .ok (.putfield 202, 3) := by decide +kernel
theorem dX7_load_44 : decode cX7_load 44 = .ok (.aload_n 0, 1) := by decide +kernel
theorem dX7_load_45 : decode cX7_load 45 = .ok (.getfield 28, 3) := by decide +kernel
theorem dX7_load_48 : decode cX7_load 48 = .ok (.iconst 0, 1) := by decide +kernel
theorem dX7_load_49 : decode cX7_load 49 = .ok (.iconst 0, 1) := by decide +kernel
theorem dX7_load_50 : decode cX7_load 50 = .ok (.bastore, 1) := by decide +kernel
theorem dX7_load_51 : decode cX7_load 51 = .ok (.aload_n 0, 1) := by decide +kernel
theorem dX7_load_52 : decode cX7_load 52 = .ok (.getfield 28, 3) := by decide +kernel
theorem dX7_load_55 : decode cX7_load 55 = .ok (.iconst 1, 1) := by decide +kernel
theorem dX7_load_56 : decode cX7_load 56 = .ok (.iconst 0, 1) := by decide +kernel
theorem dX7_load_57 : decode cX7_load 57 = .ok (.bastore, 1) := by decide +kernel
theorem dX7_load_58 : decode cX7_load 58 = .ok (.aload_n 0, 1) := by decide +kernel
theorem dX7_load_59 : decode cX7_load 59 = .ok (.getfield 145, 3) := by decide +kernel
theorem dX7_load_62 : decode cX7_load 62 = .ok (.ireturn, 1) := by decide +kernel
set_option maxRecDepth 20000 in
theorem ggX7_about_X7_in : GoodIn wsX7_about wsX7_in := goodIn_r _ [6] rfl (by decide +kernel)
set_option maxRecDepth 20000 in
theorem gX7_about_X7_in : GoodIn wsX7_about (va_wsS RX7 40 yX7_in wsX7_in) := goodIn_app (goodIn_r _ [3, 4, 5] rfl (by decide +kernel)) ggX7_about_X7_in
set_option maxRecDepth 20000 in
theorem ggX7_about_X7_refused : GoodIn wsX7_about wsX7_refused := goodIn_r _ [10, 11, 36, 37, 38, 39, 40, 41, 42, 43, 44, 45, 46, 47] rfl (by decide +kernel)
set_option maxRecDepth 20000 in
theorem gX7_about_X7_refused : GoodIn wsX7_about (wsV RX7 137 RX7 yX7_refused wsX7_refused) := goodIn_app (goodIn_r _ [7, 8, 9, 5] rfl (by decide +kernel)) ggX7_about_X7_refused
set_option maxRecDepth 20000 in
theorem ggX7_about_X7_of : GoodIn wsX7_about wsX7_of := goodIn_r _ [14] rfl (by decide +kernel)
set_option maxRecDepth 20000 in
theorem gX7_about_X7_of : GoodIn wsX7_about (va_wsS RX7 48 yX7_of wsX7_of) := goodIn_app (goodIn_r _ [12, 13, 5] rfl (by decide +kernel)) ggX7_about_X7_of
set_option maxRecDepth 20000 in
theorem ggX7_about_X7_gaps : GoodIn wsX7_about wsX7_gaps := goodIn_r _ [17, 18, 19, 5, 20, 21, 22, 23, 24, 25, 26] rfl (by decide +kernel)
set_option maxRecDepth 20000 in
theorem gX7_about_X7_gaps : GoodIn wsX7_about (va_wsS RX7 207 yX7_gaps wsX7_gaps) := goodIn_app (goodIn_r _ [15, 16, 5] rfl (by decide +kernel)) ggX7_about_X7_gaps
set_option maxRecDepth 20000 in
theorem ggX7_about_X7_longest : GoodIn wsX7_about wsX7_longest := goodIn_r _ [29, 18, 19, 5, 20, 24, 25, 26, 21, 22, 23] rfl (by decide +kernel)
set_option maxRecDepth 20000 in
theorem gX7_about_X7_longest : GoodIn wsX7_about (va_wsS RX7 72 yX7_longest wsX7_longest) := goodIn_app (goodIn_r _ [27, 28, 5] rfl (by decide +kernel)) ggX7_about_X7_longest
set_option maxRecDepth 20000 in
theorem ggX7_about_X7_cellsWith : GoodIn wsX7_about wsX7_cellsWith := goodIn_r _ [32] rfl (by decide +kernel)
set_option maxRecDepth 20000 in
theorem gX7_about_X7_cellsWith : GoodIn wsX7_about (va_wsS RX7 122 yX7_cellsWith wsX7_cellsWith) := goodIn_app (goodIn_r _ [30, 31, 5] rfl (by decide +kernel)) ggX7_about_X7_cellsWith
set_option maxRecDepth 20000 in
theorem ggX7_about_X7_many : GoodIn wsX7_about wsX7_many := goodIn_r _ [35, 12, 13, 5, 14] rfl (by decide +kernel)
set_option maxRecDepth 20000 in
theorem gX7_about_X7_many : GoodIn wsX7_about (va_wsS RX7 210 yX7_many wsX7_many) := goodIn_app (goodIn_r _ [33, 34, 5] rfl (by decide +kernel)) ggX7_about_X7_many
theorem dX7_about_0 : decode cX7_about 0 = .ok (.aload_n 0, 1) := by decide +kernel
theorem dX7_about_1 : decode cX7_about 1 = .ok (.iload_n 1, 1) := by decide +kernel
theorem dX7_about_2 : decode cX7_about 2 = .ok (.i2l, 1) := by decide +kernel
theorem dX7_about_3 : decode cX7_about 3 = .ok (.lconst 0, 1) := by decide +kernel
theorem dX7_about_4 : decode cX7_about 4 = .ok (.ldc2_w 205, 3) := by decide +kernel
theorem dX7_about_7 : decode cX7_about 7 = .ok (.invokestatic 40, 3) := by decide +kernel
theorem dX7_about_10 : decode cX7_about 10 = .ok (.ifCond .eq 7, 3) := by decide +kernel
theorem dX7_about_13 : decode cX7_about 13 = .ok (.iconst 0, 1) := by decide +kernel
theorem dX7_about_14 : decode cX7_about 14 = .ok (.goto 4, 3) := by decide +kernel
theorem dX7_about_17 : decode cX7_about 17 = .ok (.iconst 1, 1) := by decide +kernel
theorem dX7_about_18 : decode cX7_about 18 = .ok (.invokevirtual 137, 3) := by decide +kernel
theorem dX7_about_21 : decode cX7_about 21 = .ok (.ifCond .eq 5, 3) := by decide +kernel
theorem dX7_about_24 : decode cX7_about 24 = .ok (.iconst 0, 1) := by decide +kernel
theorem dX7_about_25 : decode cX7_about 25 = .ok (.ireturn, 1) := by decide +kernel
theorem dX7_about_26 : decode cX7_about 26 = .ok (.iconst 0, 1) := by decide +kernel
theorem dX7_about_27 : decode cX7_about 27 = .ok (.istore_n 2, 1) := by decide +kernel
theorem dX7_about_28 : decode cX7_about 28 = .ok (.iconst 0, 1) := by decide +kernel
theorem dX7_about_29 : decode cX7_about 29 = .ok (.istore_n 3, 1) := by decide +kernel
theorem dX7_about_30 : decode cX7_about 30 = .ok (.iload_n 3, 1) := by decide +kernel
theorem dX7_about_31 : decode cX7_about 31 = .ok (.aload_n 0, 1) := by decide +kernel
theorem dX7_about_32 : decode cX7_about 32 = .ok (.getfield 13, 3) := by decide +kernel
theorem dX7_about_35 : decode cX7_about 35 = .ok (.iconst 0, 1) := by decide +kernel
theorem dX7_about_36 : decode cX7_about 36 = .ok (.iaload, 1) := by decide +kernel
theorem dX7_about_37 : decode cX7_about 37 = .ok (.if_icmp .ge 21, 3) := by decide +kernel
theorem dX7_about_40 : decode cX7_about 40 = .ok (.iload_n 2, 1) := by decide +kernel
theorem dX7_about_41 : decode cX7_about 41 = .ok (.aload_n 0, 1) := by decide +kernel
theorem dX7_about_42 : decode cX7_about 42 = .ok (.getfield 13, 3) := by decide +kernel
theorem dX7_about_45 : decode cX7_about 45 = .ok (.iload_n 3, 1) := by decide +kernel
theorem dX7_about_46 : decode cX7_about 46 = .ok (.iconst 4, 1) := by decide +kernel
theorem dX7_about_47 : decode cX7_about 47 = .ok (.invokestatic 48, 3) := by decide +kernel
theorem dX7_about_50 : decode cX7_about 50 = .ok (.iadd, 1) := by decide +kernel
theorem dX7_about_51 : decode cX7_about 51 = .ok (.istore_n 2, 1) := by decide +kernel
theorem dX7_about_52 : decode cX7_about 52 = .ok (.iinc 3 1, 3) := by decide +kernel
theorem dX7_about_55 : decode cX7_about 55 = .ok (.goto (-25), 3) := by decide +kernel
theorem dX7_about_58 : decode cX7_about 58 = .ok (.iload_n 1, 1) := by decide +kernel
theorem dX7_about_59 : decode cX7_about 59 = .ok (.tableswitch 112 0 11 #[61, 112, 112, 112, 112, 112, 68, 75, 83, 91, 100, 110], 61) := by decide +kernel
theorem dX7_about_120 : decode cX7_about 120 = .ok (.aload_n 0, 1) := by decide +kernel
theorem dX7_about_121 : decode cX7_about 121 = .ok (.getfield 13, 3) := by decide +kernel
theorem dX7_about_124 : decode cX7_about 124 = .ok (.iconst 0, 1) := by decide +kernel
theorem dX7_about_125 : decode cX7_about 125 = .ok (.iaload, 1) := by decide +kernel
theorem dX7_about_126 : decode cX7_about 126 = .ok (.ireturn, 1) := by decide +kernel
theorem dX7_about_127 : decode cX7_about 127 = .ok (.aload_n 0, 1) := by decide +kernel
theorem dX7_about_128 : decode cX7_about 128 = .ok (.getfield 13, 3) := by decide +kernel
theorem dX7_about_131 : decode cX7_about 131 = .ok (.iconst 1, 1) := by decide +kernel
theorem dX7_about_132 : decode cX7_about 132 = .ok (.iaload, 1) := by decide +kernel
theorem dX7_about_133 : decode cX7_about 133 = .ok (.ireturn, 1) := by decide +kernel
theorem dX7_about_134 : decode cX7_about 134 = .ok (.aload_n 0, 1) := by decide +kernel
theorem dX7_about_135 : decode cX7_about 135 = .ok (.getfield 13, 3) := by decide +kernel
theorem dX7_about_138 : decode cX7_about 138 = .ok (.invokestatic 207, 3) := by decide +kernel
theorem dX7_about_141 : decode cX7_about 141 = .ok (.ireturn, 1) := by decide +kernel
theorem dX7_about_142 : decode cX7_about 142 = .ok (.aload_n 0, 1) := by decide +kernel
theorem dX7_about_143 : decode cX7_about 143 = .ok (.getfield 13, 3) := by decide +kernel
theorem dX7_about_146 : decode cX7_about 146 = .ok (.invokestatic 72, 3) := by decide +kernel
theorem dX7_about_149 : decode cX7_about 149 = .ok (.ireturn, 1) := by decide +kernel
theorem dX7_about_150 : decode cX7_about 150 = .ok (.aload_n 0, 1) := by decide +kernel
theorem dX7_about_151 : decode cX7_about 151 = .ok (.getfield 13, 3) := by decide +kernel
theorem dX7_about_154 : decode cX7_about 154 = .ok (.iconst (-1), 1) := by decide +kernel
theorem dX7_about_155 : decode cX7_about 155 = .ok (.invokestatic 122, 3) := by decide +kernel
theorem dX7_about_158 : decode cX7_about 158 = .ok (.ireturn, 1) := by decide +kernel
theorem dX7_about_159 : decode cX7_about 159 = .ok (.aload_n 0, 1) := by decide +kernel
theorem dX7_about_160 : decode cX7_about 160 = .ok (.getfield 13, 3) := by decide +kernel
theorem dX7_about_163 : decode cX7_about 163 = .ok (.bipush 100, 2) := by decide +kernel
theorem dX7_about_165 : decode cX7_about 165 = .ok (.invokestatic 122, 3) := by decide +kernel
theorem dX7_about_168 : decode cX7_about 168 = .ok (.ireturn, 1) := by decide +kernel
theorem dX7_about_169 : decode cX7_about 169 = .ok (.iload_n 2, 1) := by decide +kernel
theorem dX7_about_170 : decode cX7_about 170 = .ok (.ireturn, 1) := by decide +kernel
theorem dX7_about_171 : decode cX7_about 171 = .ok (.aload_n 0, 1) := by decide +kernel
theorem dX7_about_172 : decode cX7_about 172 = .ok (.getfield 13, 3) := by decide +kernel
theorem dX7_about_175 : decode cX7_about 175 = .ok (.iload_n 1, 1) := by decide +kernel
theorem dX7_about_176 : decode cX7_about 176 = .ok (.iconst 1, 1) := by decide +kernel
theorem dX7_about_177 : decode cX7_about 177 = .ok (.isub, 1) := by decide +kernel
theorem dX7_about_178 : decode cX7_about 178 = .ok (.invokestatic 210, 3) := by decide +kernel
theorem dX7_about_181 : decode cX7_about 181 = .ok (.ireturn, 1) := by decide +kernel
set_option maxRecDepth 20000 in
theorem ggX7_carOf_X7_isCar : GoodIn wsX7_carOf wsX7_isCar := goodIn_r _ [6, 7, 8, 5, 9] rfl (by decide +kernel)
set_option maxRecDepth 20000 in
theorem gX7_carOf_X7_isCar : GoodIn wsX7_carOf (va_wsS RX7 44 yX7_isCar wsX7_isCar) := goodIn_app (goodIn_r _ [3, 4, 5] rfl (by decide +kernel)) ggX7_carOf_X7_isCar
set_option maxRecDepth 20000 in
theorem ggX7_carOf_X7_in : GoodIn wsX7_carOf wsX7_in := goodIn_r _ [9] rfl (by decide +kernel)
set_option maxRecDepth 20000 in
theorem gX7_carOf_X7_in : GoodIn wsX7_carOf (va_wsS RX7 40 yX7_in wsX7_in) := goodIn_app (goodIn_r _ [7, 8, 5] rfl (by decide +kernel)) ggX7_carOf_X7_in
set_option maxRecDepth 20000 in
theorem ggX7_carOf_X7_refused : GoodIn wsX7_carOf wsX7_refused := goodIn_r _ [13, 14, 21, 22, 23, 24, 25, 26, 27, 28, 29, 30, 31, 32] rfl (by decide +kernel)
set_option maxRecDepth 20000 in
theorem gX7_carOf_X7_refused : GoodIn wsX7_carOf (wsV RX7 137 RX7 yX7_refused wsX7_refused) := goodIn_app (goodIn_r _ [10, 11, 12, 5] rfl (by decide +kernel)) ggX7_carOf_X7_refused
set_option maxRecDepth 20000 in
theorem ggX7_carOf_X7_of : GoodIn wsX7_carOf wsX7_of := goodIn_r _ [17] rfl (by decide +kernel)
set_option maxRecDepth 20000 in
theorem gX7_carOf_X7_of : GoodIn wsX7_carOf (va_wsS RX7 48 yX7_of wsX7_of) := goodIn_app (goodIn_r _ [15, 16, 5] rfl (by decide +kernel)) ggX7_carOf_X7_of
set_option maxRecDepth 20000 in
theorem ggX7_carOf_X7_isParked : GoodIn wsX7_carOf wsX7_isParked := goodIn_r _ [20, 3, 4, 5, 6, 7, 8, 9, 15, 16, 17] rfl (by decide +kernel)
set_option maxRecDepth 20000 in
theorem gX7_carOf_X7_isParked : GoodIn wsX7_carOf (va_wsS RX7 125 yX7_isParked wsX7_isParked) := goodIn_app (goodIn_r _ [18, 19, 5] rfl (by decide +kernel)) ggX7_carOf_X7_isParked
theorem dX7_carOf_0 : decode cX7_carOf 0 = .ok (.aload_n 0, 1) := by decide +kernel
theorem dX7_carOf_1 : decode cX7_carOf 1 = .ok (.aload_n 0, 1) := by decide +kernel
theorem dX7_carOf_2 : decode cX7_carOf 2 = .ok (.getfield 13, 3) := by decide +kernel
theorem dX7_carOf_5 : decode cX7_carOf 5 = .ok (.iload_n 1, 1) := by decide +kernel
theorem dX7_carOf_6 : decode cX7_carOf 6 = .ok (.invokestatic 44, 3) := by decide +kernel
theorem dX7_carOf_9 : decode cX7_carOf 9 = .ok (.ifCond .ne 7, 3) := by decide +kernel
theorem dX7_carOf_12 : decode cX7_carOf 12 = .ok (.iconst 1, 1) := by decide +kernel
theorem dX7_carOf_13 : decode cX7_carOf 13 = .ok (.goto 20, 3) := by decide +kernel
theorem dX7_carOf_16 : decode cX7_carOf 16 = .ok (.iload_n 2, 1) := by decide +kernel
theorem dX7_carOf_17 : decode cX7_carOf 17 = .ok (.i2l, 1) := by decide +kernel
theorem dX7_carOf_18 : decode cX7_carOf 18 = .ok (.lconst 0, 1) := by decide +kernel
theorem dX7_carOf_19 : decode cX7_carOf 19 = .ok (.ldc2_w 213, 3) := by decide +kernel
theorem dX7_carOf_22 : decode cX7_carOf 22 = .ok (.invokestatic 40, 3) := by decide +kernel
theorem dX7_carOf_25 : decode cX7_carOf 25 = .ok (.ifCond .eq 7, 3) := by decide +kernel
theorem dX7_carOf_28 : decode cX7_carOf 28 = .ok (.iconst 0, 1) := by decide +kernel
theorem dX7_carOf_29 : decode cX7_carOf 29 = .ok (.goto 4, 3) := by decide +kernel
theorem dX7_carOf_32 : decode cX7_carOf 32 = .ok (.iconst 2, 1) := by decide +kernel
theorem dX7_carOf_33 : decode cX7_carOf 33 = .ok (.invokevirtual 137, 3) := by decide +kernel
theorem dX7_carOf_36 : decode cX7_carOf 36 = .ok (.ifCond .eq 5, 3) := by decide +kernel
theorem dX7_carOf_39 : decode cX7_carOf 39 = .ok (.iconst 0, 1) := by decide +kernel
theorem dX7_carOf_40 : decode cX7_carOf 40 = .ok (.ireturn, 1) := by decide +kernel
theorem dX7_carOf_41 : decode cX7_carOf 41 = .ok (.iload_n 2, 1) := by decide +kernel
theorem dX7_carOf_42 : decode cX7_carOf 42 = .ok (.bipush 6, 2) := by decide +kernel
theorem dX7_carOf_44 : decode cX7_carOf 44 = .ok (.if_icmp .ge 15, 3) := by decide +kernel
theorem dX7_carOf_47 : decode cX7_carOf 47 = .ok (.aload_n 0, 1) := by decide +kernel
theorem dX7_carOf_48 : decode cX7_carOf 48 = .ok (.getfield 13, 3) := by decide +kernel
theorem dX7_carOf_51 : decode cX7_carOf 51 = .ok (.iload_n 1, 1) := by decide +kernel
theorem dX7_carOf_52 : decode cX7_carOf 52 = .ok (.iload_n 2, 1) := by decide +kernel
theorem dX7_carOf_53 : decode cX7_carOf 53 = .ok (.invokestatic 48, 3) := by decide +kernel
theorem dX7_carOf_56 : decode cX7_carOf 56 = .ok (.goto 37, 3) := by decide +kernel
theorem dX7_carOf_59 : decode cX7_carOf 59 = .ok (.aload_n 0, 1) := by decide +kernel
theorem dX7_carOf_60 : decode cX7_carOf 60 = .ok (.getfield 13, 3) := by decide +kernel
theorem dX7_carOf_63 : decode cX7_carOf 63 = .ok (.iload_n 1, 1) := by decide +kernel
theorem dX7_carOf_64 : decode cX7_carOf 64 = .ok (.invokestatic 125, 3) := by decide +kernel
theorem dX7_carOf_67 : decode cX7_carOf 67 = .ok (.ifCond .eq 25, 3) := by decide +kernel
theorem dX7_carOf_70 : decode cX7_carOf 70 = .ok (.aload_n 0, 1) := by decide +kernel
theorem dX7_carOf_71 : decode cX7_carOf 71 = .ok (.getfield 13, 3) := by decide +kernel
theorem dX7_carOf_74 : decode cX7_carOf 74 = .ok (.iload_n 1, 1) := by decide +kernel
theorem dX7_carOf_75 : decode cX7_carOf 75 = .ok (.iconst 1, 1) := by decide +kernel
theorem dX7_carOf_76 : decode cX7_carOf 76 = .ok (.invokestatic 48, 3) := by decide +kernel
theorem dX7_carOf_79 : decode cX7_carOf 79 = .ok (.aload_n 0, 1) := by decide +kernel
theorem dX7_carOf_80 : decode cX7_carOf 80 = .ok (.getfield 13, 3) := by decide +kernel
theorem dX7_carOf_83 : decode cX7_carOf 83 = .ok (.iload_n 1, 1) := by decide +kernel
theorem dX7_carOf_84 : decode cX7_carOf 84 = .ok (.iconst 4, 1) := by decide +kernel
theorem dX7_carOf_85 : decode cX7_carOf 85 = .ok (.invokestatic 48, 3) := by decide +kernel
theorem dX7_carOf_88 : decode cX7_carOf 88 = .ok (.isub, 1) := by decide +kernel
theorem dX7_carOf_89 : decode cX7_carOf 89 = .ok (.goto 4, 3) := by decide +kernel
theorem dX7_carOf_92 : decode cX7_carOf 92 = .ok (.iconst (-1), 1) := by decide +kernel
theorem dX7_carOf_93 : decode cX7_carOf 93 = .ok (.ireturn, 1) := by decide +kernel
set_option maxRecDepth 20000 in
theorem ggX7_at_X7_isCell : GoodIn wsX7_at wsX7_isCell := goodIn_r _ [5, 6, 7, 8, 4, 9] rfl (by decide +kernel)
set_option maxRecDepth 20000 in
theorem gX7_at_X7_isCell : GoodIn wsX7_at (va_wsS RX7 118 yX7_isCell wsX7_isCell) := goodIn_app (goodIn_r _ [2, 3, 4] rfl (by decide +kernel)) ggX7_at_X7_isCell
set_option maxRecDepth 20000 in
theorem ggX7_at_X7_refused : GoodIn wsX7_at wsX7_refused := goodIn_r _ [13, 14, 15, 16, 17, 18, 19, 20, 21, 22, 23, 24, 25, 26] rfl (by decide +kernel)
set_option maxRecDepth 20000 in
theorem gX7_at_X7_refused : GoodIn wsX7_at (wsV RX7 137 RX7 yX7_refused wsX7_refused) := goodIn_app (goodIn_r _ [10, 11, 12, 4] rfl (by decide +kernel)) ggX7_at_X7_refused
theorem dX7_at_0 : decode cX7_at 0 = .ok (.aload_n 0, 1) := by decide +kernel
theorem dX7_at_1 : decode cX7_at 1 = .ok (.iload_n 1, 1) := by decide +kernel
theorem dX7_at_2 : decode cX7_at 2 = .ok (.invokestatic 118, 3) := by decide +kernel
theorem dX7_at_5 : decode cX7_at 5 = .ok (.ifCond .eq 7, 3) := by decide +kernel
theorem dX7_at_8 : decode cX7_at 8 = .ok (.iconst 0, 1) := by decide +kernel
theorem dX7_at_9 : decode cX7_at 9 = .ok (.goto 4, 3) := by decide +kernel
theorem dX7_at_12 : decode cX7_at 12 = .ok (.iconst 1, 1) := by decide +kernel
theorem dX7_at_13 : decode cX7_at 13 = .ok (.invokevirtual 137, 3) := by decide +kernel
theorem dX7_at_16 : decode cX7_at 16 = .ok (.ifCond .eq 5, 3) := by decide +kernel
theorem dX7_at_19 : decode cX7_at 19 = .ok (.iconst 0, 1) := by decide +kernel
theorem dX7_at_20 : decode cX7_at 20 = .ok (.ireturn, 1) := by decide +kernel
theorem dX7_at_21 : decode cX7_at 21 = .ok (.aload_n 0, 1) := by decide +kernel
theorem dX7_at_22 : decode cX7_at 22 = .ok (.getfield 13, 3) := by decide +kernel
theorem dX7_at_25 : decode cX7_at 25 = .ok (.bipush 7, 2) := by decide +kernel
theorem dX7_at_27 : decode cX7_at 27 = .ok (.iload_n 1, 1) := by decide +kernel
theorem dX7_at_28 : decode cX7_at 28 = .ok (.iadd, 1) := by decide +kernel
theorem dX7_at_29 : decode cX7_at 29 = .ok (.iaload, 1) := by decide +kernel
theorem dX7_at_30 : decode cX7_at 30 = .ok (.ireturn, 1) := by decide +kernel
set_option maxRecDepth 20000 in
theorem ggX7_gap_X7_gapOf : GoodIn wsX7_gap wsX7_gapOf := goodIn_r _ [5, 6, 7, 4, 8, 9, 10, 11, 12, 13, 14] rfl (by decide +kernel)
set_option maxRecDepth 20000 in
theorem gX7_gap_X7_gapOf : GoodIn wsX7_gap (va_wsS RX7 215 yX7_gapOf wsX7_gapOf) := goodIn_app (goodIn_r _ [2, 3, 4] rfl (by decide +kernel)) ggX7_gap_X7_gapOf
set_option maxRecDepth 20000 in
theorem ggX7_gap_X7_in : GoodIn wsX7_gap wsX7_in := goodIn_r _ [17] rfl (by decide +kernel)
set_option maxRecDepth 20000 in
theorem gX7_gap_X7_in : GoodIn wsX7_gap (va_wsS RX7 40 yX7_in wsX7_in) := goodIn_app (goodIn_r _ [15, 16, 4] rfl (by decide +kernel)) ggX7_gap_X7_in
set_option maxRecDepth 20000 in
theorem ggX7_gap_X7_refused : GoodIn wsX7_gap wsX7_refused := goodIn_r _ [21, 22, 23, 24, 25, 26, 27, 28, 29, 30, 31, 32, 33, 34] rfl (by decide +kernel)
set_option maxRecDepth 20000 in
theorem gX7_gap_X7_refused : GoodIn wsX7_gap (wsV RX7 137 RX7 yX7_refused wsX7_refused) := goodIn_app (goodIn_r _ [18, 19, 20, 4] rfl (by decide +kernel)) ggX7_gap_X7_refused
set_option maxRecDepth 20000 in
theorem ggX7_gap_X7_gapCells : GoodIn wsX7_gap wsX7_gapCells := goodIn_r _ [14] rfl (by decide +kernel)
set_option maxRecDepth 20000 in
theorem gX7_gap_X7_gapCells : GoodIn wsX7_gap (va_wsS RX7 62 yX7_gapCells wsX7_gapCells) := goodIn_app (goodIn_r _ [12, 13, 4] rfl (by decide +kernel)) ggX7_gap_X7_gapCells
theorem dX7_gap_0 : decode cX7_gap 0 = .ok (.iload_n 1, 1) := by decide +kernel
theorem dX7_gap_1 : decode cX7_gap 1 = .ok (.ifCond .ge 8, 3) := by decide +kernel
theorem dX7_gap_4 : decode cX7_gap 4 = .ok (.bipush 80, 2) := by decide +kernel
theorem dX7_gap_6 : decode cX7_gap 6 = .ok (.goto 11, 3) := by decide +kernel
theorem dX7_gap_9 : decode cX7_gap 9 = .ok (.aload_n 0, 1) := by decide +kernel
theorem dX7_gap_10 : decode cX7_gap 10 = .ok (.getfield 13, 3) := by decide +kernel
theorem dX7_gap_13 : decode cX7_gap 13 = .ok (.iload_n 1, 1) := by decide +kernel
theorem dX7_gap_14 : decode cX7_gap 14 = .ok (.invokestatic 215, 3) := by decide +kernel
theorem dX7_gap_17 : decode cX7_gap 17 = .ok (.istore_n 3, 1) := by decide +kernel
theorem dX7_gap_18 : decode cX7_gap 18 = .ok (.aload_n 0, 1) := by decide +kernel
theorem dX7_gap_19 : decode cX7_gap 19 = .ok (.iload_n 3, 1) := by decide +kernel
theorem dX7_gap_20 : decode cX7_gap 20 = .ok (.bipush 80, 2) := by decide +kernel
theorem dX7_gap_22 : decode cX7_gap 22 = .ok (.if_icmp .ne 7, 3) := by decide +kernel
theorem dX7_gap_25 : decode cX7_gap 25 = .ok (.iconst 1, 1) := by decide +kernel
theorem dX7_gap_26 : decode cX7_gap 26 = .ok (.goto 18, 3) := by decide +kernel
theorem dX7_gap_29 : decode cX7_gap 29 = .ok (.iload_n 2, 1) := by decide +kernel
theorem dX7_gap_30 : decode cX7_gap 30 = .ok (.i2l, 1) := by decide +kernel
theorem dX7_gap_31 : decode cX7_gap 31 = .ok (.lconst 0, 1) := by decide +kernel
theorem dX7_gap_32 : decode cX7_gap 32 = .ok (.lconst 1, 1) := by decide +kernel
theorem dX7_gap_33 : decode cX7_gap 33 = .ok (.invokestatic 40, 3) := by decide +kernel
theorem dX7_gap_36 : decode cX7_gap 36 = .ok (.ifCond .eq 7, 3) := by decide +kernel
theorem dX7_gap_39 : decode cX7_gap 39 = .ok (.iconst 0, 1) := by decide +kernel
theorem dX7_gap_40 : decode cX7_gap 40 = .ok (.goto 4, 3) := by decide +kernel
theorem dX7_gap_43 : decode cX7_gap 43 = .ok (.iconst 2, 1) := by decide +kernel
theorem dX7_gap_44 : decode cX7_gap 44 = .ok (.invokevirtual 137, 3) := by decide +kernel
theorem dX7_gap_47 : decode cX7_gap 47 = .ok (.ifCond .eq 5, 3) := by decide +kernel
theorem dX7_gap_50 : decode cX7_gap 50 = .ok (.iconst 0, 1) := by decide +kernel
theorem dX7_gap_51 : decode cX7_gap 51 = .ok (.ireturn, 1) := by decide +kernel
theorem dX7_gap_52 : decode cX7_gap 52 = .ok (.iload_n 2, 1) := by decide +kernel
theorem dX7_gap_53 : decode cX7_gap 53 = .ok (.ifCond .ne 7, 3) := by decide +kernel
theorem dX7_gap_56 : decode cX7_gap 56 = .ok (.iload_n 3, 1) := by decide +kernel
theorem dX7_gap_57 : decode cX7_gap 57 = .ok (.goto 11, 3) := by decide +kernel
theorem dX7_gap_60 : decode cX7_gap 60 = .ok (.aload_n 0, 1) := by decide +kernel
theorem dX7_gap_61 : decode cX7_gap 61 = .ok (.getfield 13, 3) := by decide +kernel
theorem dX7_gap_64 : decode cX7_gap 64 = .ok (.iload_n 3, 1) := by decide +kernel
theorem dX7_gap_65 : decode cX7_gap 65 = .ok (.invokestatic 62, 3) := by decide +kernel
theorem dX7_gap_68 : decode cX7_gap 68 = .ok (.ireturn, 1) := by decide +kernel
set_option maxRecDepth 20000 in
theorem ggX7_setting_X7_in : GoodIn wsX7_setting wsX7_in := goodIn_r _ [6] rfl (by decide +kernel)
set_option maxRecDepth 20000 in
theorem gX7_setting_X7_in : GoodIn wsX7_setting (va_wsS RX7 40 yX7_in wsX7_in) := goodIn_app (goodIn_r _ [3, 4, 5] rfl (by decide +kernel)) ggX7_setting_X7_in
set_option maxRecDepth 20000 in
theorem ggX7_setting_X7_refused : GoodIn wsX7_setting wsX7_refused := goodIn_r _ [10, 11, 12, 13, 14, 15, 16, 17, 18, 19, 20, 21, 22, 23] rfl (by decide +kernel)
set_option maxRecDepth 20000 in
theorem gX7_setting_X7_refused : GoodIn wsX7_setting (wsV RX7 137 RX7 yX7_refused wsX7_refused) := goodIn_app (goodIn_r _ [7, 8, 9, 5] rfl (by decide +kernel)) ggX7_setting_X7_refused
theorem dX7_setting_0 : decode cX7_setting 0 = .ok (.aload_n 0, 1) := by decide +kernel
theorem dX7_setting_1 : decode cX7_setting 1 = .ok (.iload_n 1, 1) := by decide +kernel
theorem dX7_setting_2 : decode cX7_setting 2 = .ok (.i2l, 1) := by decide +kernel
theorem dX7_setting_3 : decode cX7_setting 3 = .ok (.lconst 0, 1) := by decide +kernel
theorem dX7_setting_4 : decode cX7_setting 4 = .ok (.ldc2_w 54, 3) := by decide +kernel
theorem dX7_setting_7 : decode cX7_setting 7 = .ok (.invokestatic 40, 3) := by decide +kernel
theorem dX7_setting_10 : decode cX7_setting 10 = .ok (.ifCond .eq 7, 3) := by decide +kernel
theorem dX7_setting_13 : decode cX7_setting 13 = .ok (.iconst 0, 1) := by decide +kernel
theorem dX7_setting_14 : decode cX7_setting 14 = .ok (.goto 4, 3) := by decide +kernel
theorem dX7_setting_17 : decode cX7_setting 17 = .ok (.iconst 1, 1) := by decide +kernel
theorem dX7_setting_18 : decode cX7_setting 18 = .ok (.invokevirtual 137, 3) := by decide +kernel
theorem dX7_setting_21 : decode cX7_setting 21 = .ok (.ifCond .eq 5, 3) := by decide +kernel
theorem dX7_setting_24 : decode cX7_setting 24 = .ok (.iconst 0, 1) := by decide +kernel
theorem dX7_setting_25 : decode cX7_setting 25 = .ok (.ireturn, 1) := by decide +kernel
theorem dX7_setting_26 : decode cX7_setting 26 = .ok (.aload_n 0, 1) := by decide +kernel
theorem dX7_setting_27 : decode cX7_setting 27 = .ok (.getfield 13, 3) := by decide +kernel
theorem dX7_setting_30 : decode cX7_setting 30 = .ok (.iconst 2, 1) := by decide +kernel
theorem dX7_setting_31 : decode cX7_setting 31 = .ok (.iload_n 1, 1) := by decide +kernel
theorem dX7_setting_32 : decode cX7_setting 32 = .ok (.iadd, 1) := by decide +kernel
theorem dX7_setting_33 : decode cX7_setting 33 = .ok (.iaload, 1) := by decide +kernel
theorem dX7_setting_34 : decode cX7_setting 34 = .ok (.ireturn, 1) := by decide +kernel
set_option maxRecDepth 20000 in
theorem ggX7_remember_X7_copyState : GoodIn wsX7_remember wsX7_copyState := goodIn_r _ [7] rfl (by decide +kernel)
set_option maxRecDepth 20000 in
theorem gX7_remember_X7_copyState : GoodIn wsX7_remember (va_wsS RX7 198 yX7_copyState wsX7_copyState) := goodIn_app (goodIn_r _ [4, 5, 6] rfl (by decide +kernel)) ggX7_remember_X7_copyState
theorem dX7_remember_0 : decode cX7_remember 0 = .ok (.aload_n 0, 1) := by decide +kernel
theorem dX7_remember_1 : decode cX7_remember 1 = .ok (.getfield 202, 3) := by decide +kernel
theorem dX7_remember_4 : decode cX7_remember 4 = .ok (.bipush 14, 2) := by decide +kernel
theorem dX7_remember_6 : decode cX7_remember 6 = .ok (.if_icmp .ne 44, 3) := by decide +kernel
theorem dX7_remember_9 : decode cX7_remember 9 = .ok (.iconst 0, 1) := by decide +kernel
theorem dX7_remember_10 : decode cX7_remember 10 = .ok (.istore_n 1, 1) := by decide +kernel
theorem dX7_remember_11 : decode cX7_remember 11 = .ok (.iload_n 1, 1) := by decide +kernel
theorem dX7_remember_12 : decode cX7_remember 12 = .ok (.sipush 4251, 3) := by decide +kernel
theorem dX7_remember_15 : decode cX7_remember 15 = .ok (.if_icmp .ge 25, 3) := by decide +kernel
theorem dX7_remember_18 : decode cX7_remember 18 = .ok (.aload_n 0, 1) := by decide +kernel
theorem dX7_remember_19 : decode cX7_remember 19 = .ok (.getfield 22, 3) := by decide +kernel
theorem dX7_remember_22 : decode cX7_remember 22 = .ok (.iload_n 1, 1) := by decide +kernel
theorem dX7_remember_23 : decode cX7_remember 23 = .ok (.aload_n 0, 1) := by decide +kernel
theorem dX7_remember_24 : decode cX7_remember 24 = .ok (.getfield 22, 3) := by decide +kernel
theorem dX7_remember_27 : decode cX7_remember 27 = .ok (.iload_n 1, 1) := by decide +kernel
theorem dX7_remember_28 : decode cX7_remember 28 = .ok (.sipush 327, 3) := by decide +kernel
theorem dX7_remember_31 : decode cX7_remember 31 = .ok (.iadd, 1) := by decide +kernel
theorem dX7_remember_32 : decode cX7_remember 32 = .ok (.iaload, 1) := by decide +kernel
theorem dX7_remember_33 : decode cX7_remember 33 = .ok (.iastore, 1) := by decide +kernel
theorem dX7_remember_34 : decode cX7_remember 34 = .ok (.iinc 1 1, 3) := by decide +kernel
theorem dX7_remember_37 : decode cX7_remember 37 = .ok (.goto (-26), 3) := by decide +kernel
theorem dX7_remember_40 : decode cX7_remember 40 = .ok (.aload_n 0, 1) := by decide +kernel
theorem dX7_remember_41 : decode cX7_remember 41 = .ok (.dup, 1) := by decide +kernel
theorem dX7_remember_42 : decode cX7_remember 42 = .ok (.getfield 202, 3) := by decide +kernel
theorem dX7_remember_45 : decode cX7_remember 45 = .ok (.iconst 1, 1) := by decide +kernel
theorem dX7_remember_46 : decode cX7_remember 46 = .ok (.isub, 1) := by decide +kernel
theorem dX7_remember_47 : decode cX7_remember 47 = .ok (.putfield 202, 3) := by decide +kernel
theorem dX7_remember_50 : decode cX7_remember 50 = .ok (.aload_n 0, 1) := by decide +kernel
theorem dX7_remember_51 : decode cX7_remember 51 = .ok (.getfield 13, 3) := by decide +kernel
theorem dX7_remember_54 : decode cX7_remember 54 = .ok (.iconst 0, 1) := by decide +kernel
theorem dX7_remember_55 : decode cX7_remember 55 = .ok (.aload_n 0, 1) := by decide +kernel
theorem dX7_remember_56 : decode cX7_remember 56 = .ok (.getfield 22, 3) := by decide +kernel
theorem dX7_remember_59 : decode cX7_remember 59 = .ok (.sipush 327, 3) := by decide +kernel
theorem dX7_remember_62 : decode cX7_remember 62 = .ok (.aload_n 0, 1) := by decide +kernel
theorem dX7_remember_63 : decode cX7_remember 63 = .ok (.getfield 202, 3) := by decide +kernel
theorem dX7_remember_66 : decode cX7_remember 66 = .ok (.imul, 1) := by decide +kernel
theorem dX7_remember_67 : decode cX7_remember 67 = .ok (.invokestatic 198, 3) := by decide +kernel
theorem dX7_remember_70 : decode cX7_remember 70 = .ok (.aload_n 0, 1) := by decide +kernel
theorem dX7_remember_71 : decode cX7_remember 71 = .ok (.dup, 1) := by decide +kernel
theorem dX7_remember_72 : decode cX7_remember 72 = .ok (.getfield 202, 3) := by decide +kernel
theorem dX7_remember_75 : decode cX7_remember 75 = .ok (.iconst 1, 1) := by decide +kernel
theorem dX7_remember_76 : decode cX7_remember 76 = .ok (.iadd, 1) := by decide +kernel
theorem dX7_remember_77 : decode cX7_remember 77 = .ok (.putfield 202, 3) := by decide +kernel
theorem dX7_remember_80 : decode cX7_remember 80 = .ok (.return_, 1) := by decide +kernel
set_option maxRecDepth 20000 in
theorem ggX7_hydrant_X7_isCell : GoodIn wsX7_hydrant wsX7_isCell := goodIn_r _ [5, 6, 7, 8, 4, 9] rfl (by decide +kernel)
set_option maxRecDepth 20000 in
theorem gX7_hydrant_X7_isCell : GoodIn wsX7_hydrant (va_wsS RX7 118 yX7_isCell wsX7_isCell) := goodIn_app (goodIn_r _ [2, 3, 4] rfl (by decide +kernel)) ggX7_hydrant_X7_isCell
set_option maxRecDepth 20000 in
theorem ggX7_hydrant_X7_canHydrant : GoodIn wsX7_hydrant wsX7_canHydrant := goodIn_r _ [12, 2, 3, 4, 5, 6, 7, 8, 9] rfl (by decide +kernel)
set_option maxRecDepth 20000 in
theorem gX7_hydrant_X7_canHydrant : GoodIn wsX7_hydrant (va_wsS RX7 156 yX7_canHydrant wsX7_canHydrant) := goodIn_app (goodIn_r _ [10, 11, 4] rfl (by decide +kernel)) ggX7_hydrant_X7_canHydrant
set_option maxRecDepth 20000 in
theorem ggX7_hydrant_X7_refused : GoodIn wsX7_hydrant wsX7_refused := goodIn_r _ [16, 17, 33, 34, 35, 36, 37, 38, 39, 40, 41, 42, 43, 44] rfl (by decide +kernel)
set_option maxRecDepth 20000 in
theorem gX7_hydrant_X7_refused : GoodIn wsX7_hydrant (wsV RX7 137 RX7 yX7_refused wsX7_refused) := goodIn_app (goodIn_r _ [13, 14, 15, 4] rfl (by decide +kernel)) ggX7_hydrant_X7_refused
set_option maxRecDepth 20000 in
theorem ggX7_hydrant_X7_remember : GoodIn wsX7_hydrant wsX7_remember := goodIn_r _ [21, 22, 23, 1, 24, 25, 4, 26, 33, 34, 35, 36, 37, 38, 39, 40, 41, 42, 43, 44] rfl (by decide +kernel)
set_option maxRecDepth 20000 in
theorem gX7_hydrant_X7_remember : GoodIn wsX7_hydrant (wsV RX7 218 RX7 yX7_remember wsX7_remember) := goodIn_app (goodIn_r _ [18, 19, 20, 4] rfl (by decide +kernel)) ggX7_hydrant_X7_remember
set_option maxRecDepth 20000 in
theorem ggX7_hydrant_X7_hydrantOn : GoodIn wsX7_hydrant wsX7_hydrantOn := goodIn_r _ [29, 30, 31, 4, 32] rfl (by decide +kernel)
set_option maxRecDepth 20000 in
theorem gX7_hydrant_X7_hydrantOn : GoodIn wsX7_hydrant (va_wsS RX7 160 yX7_hydrantOn wsX7_hydrantOn) := goodIn_app (goodIn_r _ [27, 28, 4] rfl (by decide +kernel)) ggX7_hydrant_X7_hydrantOn
theorem dX7_hydrant_0 : decode cX7_hydrant 0 = .ok (.aload_n 0, 1) := by decide +kernel
theorem dX7_hydrant_1 : decode cX7_hydrant 1 = .ok (.iload_n 1, 1) := by decide +kernel
theorem dX7_hydrant_2 : decode cX7_hydrant 2 = .ok (.invokestatic 118, 3) := by decide +kernel
theorem dX7_hydrant_5 : decode cX7_hydrant 5 = .ok (.ifCond .ne 7, 3) := by decide +kernel
theorem dX7_hydrant_8 : decode cX7_hydrant 8 = .ok (.iconst 1, 1) := by decide +kernel
theorem dX7_hydrant_9 : decode cX7_hydrant 9 = .ok (.goto 20, 3) := by decide +kernel
theorem dX7_hydrant_12 : decode cX7_hydrant 12 = .ok (.aload_n 0, 1) := by decide +kernel
theorem dX7_hydrant_13 : decode cX7_hydrant 13 = .ok (.getfield 13, 3) := by decide +kernel
theorem dX7_hydrant_16 : decode cX7_hydrant 16 = .ok (.iload_n 1, 1) := by decide +kernel
theorem dX7_hydrant_17 : decode cX7_hydrant 17 = .ok (.iload_n 2, 1) := by decide +kernel
theorem dX7_hydrant_18 : decode cX7_hydrant 18 = .ok (.invokestatic 156, 3) := by decide +kernel
theorem dX7_hydrant_21 : decode cX7_hydrant 21 = .ok (.ifCond .eq 7, 3) := by decide +kernel
theorem dX7_hydrant_24 : decode cX7_hydrant 24 = .ok (.iconst 0, 1) := by decide +kernel
theorem dX7_hydrant_25 : decode cX7_hydrant 25 = .ok (.goto 4, 3) := by decide +kernel
theorem dX7_hydrant_28 : decode cX7_hydrant 28 = .ok (.iconst 2, 1) := by decide +kernel
theorem dX7_hydrant_29 : decode cX7_hydrant 29 = .ok (.invokevirtual 137, 3) := by decide +kernel
theorem dX7_hydrant_32 : decode cX7_hydrant 32 = .ok (.ifCond .eq 5, 3) := by decide +kernel
theorem dX7_hydrant_35 : decode cX7_hydrant 35 = .ok (.iconst 0, 1) := by decide +kernel
theorem dX7_hydrant_36 : decode cX7_hydrant 36 = .ok (.ireturn, 1) := by decide +kernel
theorem dX7_hydrant_37 : decode cX7_hydrant 37 = .ok (.aload_n 0, 1) := by decide +kernel
theorem dX7_hydrant_38 : decode cX7_hydrant 38 = .ok (.invokevirtual 218, 3) := by decide +kernel
theorem dX7_hydrant_41 : decode cX7_hydrant 41 = .ok (.aload_n 0, 1) := by decide +kernel
theorem dX7_hydrant_42 : decode cX7_hydrant 42 = .ok (.getfield 13, 3) := by decide +kernel
theorem dX7_hydrant_45 : decode cX7_hydrant 45 = .ok (.iload_n 1, 1) := by decide +kernel
theorem dX7_hydrant_46 : decode cX7_hydrant 46 = .ok (.iload_n 2, 1) := by decide +kernel
theorem dX7_hydrant_47 : decode cX7_hydrant 47 = .ok (.invokestatic 160, 3) := by decide +kernel
theorem dX7_hydrant_50 : decode cX7_hydrant 50 = .ok (.ireturn, 1) := by decide +kernel
set_option maxRecDepth 20000 in
theorem ggX7_come_X7_isLength : GoodIn wsX7_come wsX7_isLength := goodIn_r _ [6, 7, 8, 9, 10, 5, 11] rfl (by decide +kernel)
set_option maxRecDepth 20000 in
theorem gX7_come_X7_isLength : GoodIn wsX7_come (va_wsS RX7 221 yX7_isLength wsX7_isLength) := goodIn_app (goodIn_r _ [3, 4, 5] rfl (by decide +kernel)) ggX7_come_X7_isLength
set_option maxRecDepth 20000 in
theorem ggX7_come_X7_in : GoodIn wsX7_come wsX7_in := goodIn_r _ [11] rfl (by decide +kernel)
set_option maxRecDepth 20000 in
theorem gX7_come_X7_in : GoodIn wsX7_come (va_wsS RX7 40 yX7_in wsX7_in) := goodIn_app (goodIn_r _ [9, 10, 5] rfl (by decide +kernel)) ggX7_come_X7_in
set_option maxRecDepth 20000 in
theorem ggX7_come_X7_refused : GoodIn wsX7_come wsX7_refused := goodIn_r _ [15, 16, 68, 69, 70, 71, 72, 73, 74, 75, 76, 77, 78, 79] rfl (by decide +kernel)
set_option maxRecDepth 20000 in
theorem gX7_come_X7_refused : GoodIn wsX7_come (wsV RX7 137 RX7 yX7_refused wsX7_refused) := goodIn_app (goodIn_r _ [12, 13, 14, 5] rfl (by decide +kernel)) ggX7_come_X7_refused
set_option maxRecDepth 20000 in
theorem ggX7_come_X7_remember : GoodIn wsX7_come wsX7_remember := goodIn_r _ [20, 21, 22, 2, 23, 24, 5, 25, 68, 69, 70, 71, 72, 73, 74, 75, 76, 77, 78, 79] rfl (by decide +kernel)
set_option maxRecDepth 20000 in
theorem gX7_come_X7_remember : GoodIn wsX7_come (wsV RX7 218 RX7 yX7_remember wsX7_remember) := goodIn_app (goodIn_r _ [17, 18, 19, 5] rfl (by decide +kernel)) ggX7_come_X7_remember
set_option maxRecDepth 20000 in
theorem ggX7_come_X7_comeOn : GoodIn wsX7_come wsX7_comeOn := goodIn_r _ [28, 29, 30, 5, 31, 32, 33, 34, 35, 36, 37, 38, 39, 40, 41, 42, 43, 44, 45, 46, 47, 48, 49, 50, 51, 52, 53, 54, 55, 56, 57, 58, 59, 60, 61, 62, 63, 64, 65, 66, 67] rfl (by decide +kernel)
set_option maxRecDepth 20000 in
theorem gX7_come_X7_comeOn : GoodIn wsX7_come (va_wsS RX7 172 yX7_comeOn wsX7_comeOn) := goodIn_app (goodIn_r _ [26, 27, 5] rfl (by decide +kernel)) ggX7_come_X7_comeOn
theorem dX7_come_0 : decode cX7_come 0 = .ok (.aload_n 0, 1) := by decide +kernel
theorem dX7_come_1 : decode cX7_come 1 = .ok (.iload_n 1, 1) := by decide +kernel
theorem dX7_come_2 : decode cX7_come 2 = .ok (.invokestatic 221, 3) := by decide +kernel
theorem dX7_come_5 : decode cX7_come 5 = .ok (.ifCond .eq 15, 3) := by decide +kernel
theorem dX7_come_8 : decode cX7_come 8 = .ok (.iload_n 2, 1) := by decide +kernel
theorem dX7_come_9 : decode cX7_come 9 = .ok (.i2l, 1) := by decide +kernel
theorem dX7_come_10 : decode cX7_come 10 = .ok (.lconst 1, 1) := by decide +kernel
theorem dX7_come_11 : decode cX7_come 11 = .ok (.ldc2_w 224, 3) := by decide +kernel
theorem dX7_come_14 : decode cX7_come 14 = .ok (.invokestatic 40, 3) := by decide +kernel
theorem dX7_come_17 : decode cX7_come 17 = .ok (.ifCond .ne 7, 3) := by decide +kernel
theorem dX7_come_20 : decode cX7_come 20 = .ok (.iconst 1, 1) := by decide +kernel
theorem dX7_come_21 : decode cX7_come 21 = .ok (.goto 19, 3) := by decide +kernel
theorem dX7_come_24 : decode cX7_come 24 = .ok (.aload_n 0, 1) := by decide +kernel
theorem dX7_come_25 : decode cX7_come 25 = .ok (.getfield 13, 3) := by decide +kernel
theorem dX7_come_28 : decode cX7_come 28 = .ok (.iconst 0, 1) := by decide +kernel
theorem dX7_come_29 : decode cX7_come 29 = .ok (.iaload, 1) := by decide +kernel
theorem dX7_come_30 : decode cX7_come 30 = .ok (.bipush 40, 2) := by decide +kernel
theorem dX7_come_32 : decode cX7_come 32 = .ok (.if_icmp .ge 7, 3) := by decide +kernel
theorem dX7_come_35 : decode cX7_come 35 = .ok (.iconst 0, 1) := by decide +kernel
theorem dX7_come_36 : decode cX7_come 36 = .ok (.goto 4, 3) := by decide +kernel
theorem dX7_come_39 : decode cX7_come 39 = .ok (.iconst 2, 1) := by decide +kernel
theorem dX7_come_40 : decode cX7_come 40 = .ok (.invokevirtual 137, 3) := by decide +kernel
theorem dX7_come_43 : decode cX7_come 43 = .ok (.ifCond .eq 5, 3) := by decide +kernel
theorem dX7_come_46 : decode cX7_come 46 = .ok (.iconst 0, 1) := by decide +kernel
theorem dX7_come_47 : decode cX7_come 47 = .ok (.ireturn, 1) := by decide +kernel
theorem dX7_come_48 : decode cX7_come 48 = .ok (.aload_n 0, 1) := by decide +kernel
theorem dX7_come_49 : decode cX7_come 49 = .ok (.invokevirtual 218, 3) := by decide +kernel
theorem dX7_come_52 : decode cX7_come 52 = .ok (.aload_n 0, 1) := by decide +kernel
theorem dX7_come_53 : decode cX7_come 53 = .ok (.getfield 13, 3) := by decide +kernel
theorem dX7_come_56 : decode cX7_come 56 = .ok (.iload_n 1, 1) := by decide +kernel
theorem dX7_come_57 : decode cX7_come 57 = .ok (.iload_n 2, 1) := by decide +kernel
theorem dX7_come_58 : decode cX7_come 58 = .ok (.invokestatic 172, 3) := by decide +kernel
theorem dX7_come_61 : decode cX7_come 61 = .ok (.ireturn, 1) := by decide +kernel
set_option maxRecDepth 20000 in
theorem ggX7_leave_X7_isCar : GoodIn wsX7_leave wsX7_isCar := goodIn_r _ [5, 6, 7, 4, 8] rfl (by decide +kernel)
set_option maxRecDepth 20000 in
theorem gX7_leave_X7_isCar : GoodIn wsX7_leave (va_wsS RX7 44 yX7_isCar wsX7_isCar) := goodIn_app (goodIn_r _ [2, 3, 4] rfl (by decide +kernel)) ggX7_leave_X7_isCar
set_option maxRecDepth 20000 in
theorem ggX7_leave_X7_isParked : GoodIn wsX7_leave wsX7_isParked := goodIn_r _ [11, 2, 3, 4, 5, 6, 7, 8, 12, 13, 14] rfl (by decide +kernel)
set_option maxRecDepth 20000 in
theorem gX7_leave_X7_isParked : GoodIn wsX7_leave (va_wsS RX7 125 yX7_isParked wsX7_isParked) := goodIn_app (goodIn_r _ [9, 10, 4] rfl (by decide +kernel)) ggX7_leave_X7_isParked
set_option maxRecDepth 20000 in
theorem ggX7_leave_X7_refused : GoodIn wsX7_leave wsX7_refused := goodIn_r _ [18, 19, 38, 39, 40, 41, 42, 43, 44, 45, 46, 47, 48, 49] rfl (by decide +kernel)
set_option maxRecDepth 20000 in
theorem gX7_leave_X7_refused : GoodIn wsX7_leave (wsV RX7 137 RX7 yX7_refused wsX7_refused) := goodIn_app (goodIn_r _ [15, 16, 17, 4] rfl (by decide +kernel)) ggX7_leave_X7_refused
set_option maxRecDepth 20000 in
theorem ggX7_leave_X7_remember : GoodIn wsX7_leave wsX7_remember := goodIn_r _ [23, 24, 25, 1, 26, 27, 4, 28, 38, 39, 40, 41, 42, 43, 44, 45, 46, 47, 48, 49] rfl (by decide +kernel)
set_option maxRecDepth 20000 in
theorem gX7_leave_X7_remember : GoodIn wsX7_leave (wsV RX7 218 RX7 yX7_remember wsX7_remember) := goodIn_app (goodIn_r _ [20, 21, 22, 4] rfl (by decide +kernel)) ggX7_leave_X7_remember
set_option maxRecDepth 20000 in
theorem ggX7_leave_X7_goes : GoodIn wsX7_leave wsX7_goes := goodIn_r _ [31, 12, 13, 4, 14, 32, 33, 34, 35, 36, 37] rfl (by decide +kernel)
set_option maxRecDepth 20000 in
theorem gX7_leave_X7_goes : GoodIn wsX7_leave (va_wsS RX7 109 yX7_goes wsX7_goes) := goodIn_app (goodIn_r _ [29, 30, 4] rfl (by decide +kernel)) ggX7_leave_X7_goes
theorem dX7_leave_0 : decode cX7_leave 0 = .ok (.aload_n 0, 1) := by decide +kernel
theorem dX7_leave_1 : decode cX7_leave 1 = .ok (.aload_n 0, 1) := by decide +kernel
theorem dX7_leave_2 : decode cX7_leave 2 = .ok (.getfield 13, 3) := by decide +kernel
theorem dX7_leave_5 : decode cX7_leave 5 = .ok (.iload_n 1, 1) := by decide +kernel
theorem dX7_leave_6 : decode cX7_leave 6 = .ok (.invokestatic 44, 3) := by decide +kernel
theorem dX7_leave_9 : decode cX7_leave 9 = .ok (.ifCond .ne 7, 3) := by decide +kernel
theorem dX7_leave_12 : decode cX7_leave 12 = .ok (.iconst 1, 1) := by decide +kernel
theorem dX7_leave_13 : decode cX7_leave 13 = .ok (.goto 19, 3) := by decide +kernel
theorem dX7_leave_16 : decode cX7_leave 16 = .ok (.aload_n 0, 1) := by decide +kernel
theorem dX7_leave_17 : decode cX7_leave 17 = .ok (.getfield 13, 3) := by decide +kernel
theorem dX7_leave_20 : decode cX7_leave 20 = .ok (.iload_n 1, 1) := by decide +kernel
theorem dX7_leave_21 : decode cX7_leave 21 = .ok (.invokestatic 125, 3) := by decide +kernel
theorem dX7_leave_24 : decode cX7_leave 24 = .ok (.ifCond .eq 7, 3) := by decide +kernel
theorem dX7_leave_27 : decode cX7_leave 27 = .ok (.iconst 0, 1) := by decide +kernel
theorem dX7_leave_28 : decode cX7_leave 28 = .ok (.goto 4, 3) := by decide +kernel
theorem dX7_leave_31 : decode cX7_leave 31 = .ok (.iconst 2, 1) := by decide +kernel
theorem dX7_leave_32 : decode cX7_leave 32 = .ok (.invokevirtual 137, 3) := by decide +kernel
theorem dX7_leave_35 : decode cX7_leave 35 = .ok (.ifCond .eq 5, 3) := by decide +kernel
theorem dX7_leave_38 : decode cX7_leave 38 = .ok (.iconst 0, 1) := by decide +kernel
theorem dX7_leave_39 : decode cX7_leave 39 = .ok (.ireturn, 1) := by decide +kernel
theorem dX7_leave_40 : decode cX7_leave 40 = .ok (.aload_n 0, 1) := by decide +kernel
theorem dX7_leave_41 : decode cX7_leave 41 = .ok (.invokevirtual 218, 3) := by decide +kernel
theorem dX7_leave_44 : decode cX7_leave 44 = .ok (.aload_n 0, 1) := by decide +kernel
theorem dX7_leave_45 : decode cX7_leave 45 = .ok (.getfield 13, 3) := by decide +kernel
theorem dX7_leave_48 : decode cX7_leave 48 = .ok (.iload_n 1, 1) := by decide +kernel
theorem dX7_leave_49 : decode cX7_leave 49 = .ok (.iconst 2, 1) := by decide +kernel
theorem dX7_leave_50 : decode cX7_leave 50 = .ok (.invokestatic 109, 3) := by decide +kernel
theorem dX7_leave_53 : decode cX7_leave 53 = .ok (.ireturn, 1) := by decide +kernel
set_option maxRecDepth 20000 in
theorem ggX7_tow_X7_isCar : GoodIn wsX7_tow wsX7_isCar := goodIn_r _ [5, 6, 7, 4, 8] rfl (by decide +kernel)
set_option maxRecDepth 20000 in
theorem gX7_tow_X7_isCar : GoodIn wsX7_tow (va_wsS RX7 44 yX7_isCar wsX7_isCar) := goodIn_app (goodIn_r _ [2, 3, 4] rfl (by decide +kernel)) ggX7_tow_X7_isCar
set_option maxRecDepth 20000 in
theorem ggX7_tow_X7_isParked : GoodIn wsX7_tow wsX7_isParked := goodIn_r _ [11, 2, 3, 4, 5, 6, 7, 8, 12, 13, 14] rfl (by decide +kernel)
set_option maxRecDepth 20000 in
theorem gX7_tow_X7_isParked : GoodIn wsX7_tow (va_wsS RX7 125 yX7_isParked wsX7_isParked) := goodIn_app (goodIn_r _ [9, 10, 4] rfl (by decide +kernel)) ggX7_tow_X7_isParked
set_option maxRecDepth 20000 in
theorem ggX7_tow_X7_refused : GoodIn wsX7_tow wsX7_refused := goodIn_r _ [18, 19, 38, 39, 40, 41, 42, 43, 44, 45, 46, 47, 48, 49] rfl (by decide +kernel)
set_option maxRecDepth 20000 in
theorem gX7_tow_X7_refused : GoodIn wsX7_tow (wsV RX7 137 RX7 yX7_refused wsX7_refused) := goodIn_app (goodIn_r _ [15, 16, 17, 4] rfl (by decide +kernel)) ggX7_tow_X7_refused
set_option maxRecDepth 20000 in
theorem ggX7_tow_X7_remember : GoodIn wsX7_tow wsX7_remember := goodIn_r _ [23, 24, 25, 1, 26, 27, 4, 28, 38, 39, 40, 41, 42, 43, 44, 45, 46, 47, 48, 49] rfl (by decide +kernel)
set_option maxRecDepth 20000 in
theorem gX7_tow_X7_remember : GoodIn wsX7_tow (wsV RX7 218 RX7 yX7_remember wsX7_remember) := goodIn_app (goodIn_r _ [20, 21, 22, 4] rfl (by decide +kernel)) ggX7_tow_X7_remember
set_option maxRecDepth 20000 in
theorem ggX7_tow_X7_goes : GoodIn wsX7_tow wsX7_goes := goodIn_r _ [31, 12, 13, 4, 14, 32, 33, 34, 35, 36, 37] rfl (by decide +kernel)
set_option maxRecDepth 20000 in
theorem gX7_tow_X7_goes : GoodIn wsX7_tow (va_wsS RX7 109 yX7_goes wsX7_goes) := goodIn_app (goodIn_r _ [29, 30, 4] rfl (by decide +kernel)) ggX7_tow_X7_goes
set_option maxRecDepth 20000 in
theorem ggX7_tow_X7_of : GoodIn wsX7_tow wsX7_of := goodIn_r _ [14] rfl (by decide +kernel)
set_option maxRecDepth 20000 in
theorem gX7_tow_X7_of : GoodIn wsX7_tow (va_wsS RX7 48 yX7_of wsX7_of) := goodIn_app (goodIn_r _ [12, 13, 4] rfl (by decide +kernel)) ggX7_tow_X7_of
theorem dX7_tow_0 : decode cX7_tow 0 = .ok (.aload_n 0, 1) := by decide +kernel
theorem dX7_tow_1 : decode cX7_tow 1 = .ok (.aload_n 0, 1) := by decide +kernel
theorem dX7_tow_2 : decode cX7_tow 2 = .ok (.getfield 13, 3) := by decide +kernel
theorem dX7_tow_5 : decode cX7_tow 5 = .ok (.iload_n 1, 1) := by decide +kernel
theorem dX7_tow_6 : decode cX7_tow 6 = .ok (.invokestatic 44, 3) := by decide +kernel
theorem dX7_tow_9 : decode cX7_tow 9 = .ok (.ifCond .ne 7, 3) := by decide +kernel
theorem dX7_tow_12 : decode cX7_tow 12 = .ok (.iconst 1, 1) := by decide +kernel
theorem dX7_tow_13 : decode cX7_tow 13 = .ok (.goto 19, 3) := by decide +kernel
theorem dX7_tow_16 : decode cX7_tow 16 = .ok (.aload_n 0, 1) := by decide +kernel
theorem dX7_tow_17 : decode cX7_tow 17 = .ok (.getfield 13, 3) := by decide +kernel
theorem dX7_tow_20 : decode cX7_tow 20 = .ok (.iload_n 1, 1) := by decide +kernel
theorem dX7_tow_21 : decode cX7_tow 21 = .ok (.invokestatic 125, 3) := by decide +kernel
theorem dX7_tow_24 : decode cX7_tow 24 = .ok (.ifCond .eq 7, 3) := by decide +kernel
theorem dX7_tow_27 : decode cX7_tow 27 = .ok (.iconst 0, 1) := by decide +kernel
theorem dX7_tow_28 : decode cX7_tow 28 = .ok (.goto 4, 3) := by decide +kernel
theorem dX7_tow_31 : decode cX7_tow 31 = .ok (.iconst 2, 1) := by decide +kernel
theorem dX7_tow_32 : decode cX7_tow 32 = .ok (.invokevirtual 137, 3) := by decide +kernel
theorem dX7_tow_35 : decode cX7_tow 35 = .ok (.ifCond .eq 5, 3) := by decide +kernel
theorem dX7_tow_38 : decode cX7_tow 38 = .ok (.iconst 0, 1) := by decide +kernel
theorem dX7_tow_39 : decode cX7_tow 39 = .ok (.ireturn, 1) := by decide +kernel
theorem dX7_tow_40 : decode cX7_tow 40 = .ok (.aload_n 0, 1) := by decide +kernel
theorem dX7_tow_41 : decode cX7_tow 41 = .ok (.invokevirtual 218, 3) := by decide +kernel
theorem dX7_tow_44 : decode cX7_tow 44 = .ok (.aload_n 0, 1) := by decide +kernel
theorem dX7_tow_45 : decode cX7_tow 45 = .ok (.getfield 13, 3) := by decide +kernel
theorem dX7_tow_48 : decode cX7_tow 48 = .ok (.iload_n 1, 1) := by decide +kernel
theorem dX7_tow_49 : decode cX7_tow 49 = .ok (.iconst 4, 1) := by decide +kernel
theorem dX7_tow_50 : decode cX7_tow 50 = .ok (.invokestatic 109, 3) := by decide +kernel
theorem dX7_tow_53 : decode cX7_tow 53 = .ok (.pop, 1) := by decide +kernel
theorem dX7_tow_54 : decode cX7_tow 54 = .ok (.aload_n 0, 1) := by decide +kernel
theorem dX7_tow_55 : decode cX7_tow 55 = .ok (.getfield 13, 3) := by decide +kernel
theorem dX7_tow_58 : decode cX7_tow 58 = .ok (.iload_n 1, 1) := by decide +kernel
theorem dX7_tow_59 : decode cX7_tow 59 = .ok (.iconst 1, 1) := by decide +kernel
theorem dX7_tow_60 : decode cX7_tow 60 = .ok (.invokestatic 48, 3) := by decide +kernel
theorem dX7_tow_63 : decode cX7_tow 63 = .ok (.aload_n 0, 1) := by decide +kernel
theorem dX7_tow_64 : decode cX7_tow 64 = .ok (.getfield 13, 3) := by decide +kernel
theorem dX7_tow_67 : decode cX7_tow 67 = .ok (.iload_n 1, 1) := by decide +kernel
theorem dX7_tow_68 : decode cX7_tow 68 = .ok (.iconst 4, 1) := by decide +kernel
theorem dX7_tow_69 : decode cX7_tow 69 = .ok (.invokestatic 48, 3) := by decide +kernel
theorem dX7_tow_72 : decode cX7_tow 72 = .ok (.isub, 1) := by decide +kernel
theorem dX7_tow_73 : decode cX7_tow 73 = .ok (.ireturn, 1) := by decide +kernel
set_option maxRecDepth 20000 in
theorem ggX7_move_X7_isCar : GoodIn wsX7_move wsX7_isCar := goodIn_r _ [5, 6, 7, 4, 8] rfl (by decide +kernel)
set_option maxRecDepth 20000 in
theorem gX7_move_X7_isCar : GoodIn wsX7_move (va_wsS RX7 44 yX7_isCar wsX7_isCar) := goodIn_app (goodIn_r _ [2, 3, 4] rfl (by decide +kernel)) ggX7_move_X7_isCar
set_option maxRecDepth 20000 in
theorem ggX7_move_X7_isCell : GoodIn wsX7_move wsX7_isCell := goodIn_r _ [11, 12, 6, 7, 4, 8] rfl (by decide +kernel)
set_option maxRecDepth 20000 in
theorem gX7_move_X7_isCell : GoodIn wsX7_move (va_wsS RX7 118 yX7_isCell wsX7_isCell) := goodIn_app (goodIn_r _ [9, 10, 4] rfl (by decide +kernel)) ggX7_move_X7_isCell
set_option maxRecDepth 20000 in
theorem ggX7_move_X7_canMove : GoodIn wsX7_move wsX7_canMove := goodIn_r _ [15, 16, 17, 4, 18, 19, 20, 21, 2, 3, 5, 6, 7, 8, 22, 23, 24] rfl (by decide +kernel)
set_option maxRecDepth 20000 in
theorem gX7_move_X7_canMove : GoodIn wsX7_move (va_wsS RX7 179 yX7_canMove wsX7_canMove) := goodIn_app (goodIn_r _ [13, 14, 4] rfl (by decide +kernel)) ggX7_move_X7_canMove
set_option maxRecDepth 20000 in
theorem ggX7_move_X7_refused : GoodIn wsX7_move wsX7_refused := goodIn_r _ [28, 29, 48, 49, 50, 51, 52, 53, 54, 55, 56, 57, 58, 59] rfl (by decide +kernel)
set_option maxRecDepth 20000 in
theorem gX7_move_X7_refused : GoodIn wsX7_move (wsV RX7 137 RX7 yX7_refused wsX7_refused) := goodIn_app (goodIn_r _ [25, 26, 27, 4] rfl (by decide +kernel)) ggX7_move_X7_refused
set_option maxRecDepth 20000 in
theorem ggX7_move_X7_remember : GoodIn wsX7_move wsX7_remember := goodIn_r _ [33, 34, 35, 1, 36, 37, 4, 38, 48, 49, 50, 51, 52, 53, 54, 55, 56, 57, 58, 59] rfl (by decide +kernel)
set_option maxRecDepth 20000 in
theorem gX7_move_X7_remember : GoodIn wsX7_move (wsV RX7 218 RX7 yX7_remember wsX7_remember) := goodIn_app (goodIn_r _ [30, 31, 32, 4] rfl (by decide +kernel)) ggX7_move_X7_remember
set_option maxRecDepth 20000 in
theorem ggX7_move_X7_moveOn : GoodIn wsX7_move wsX7_moveOn := goodIn_r _ [41, 16, 17, 4, 18, 42, 43, 44, 45, 46, 47] rfl (by decide +kernel)
set_option maxRecDepth 20000 in
theorem gX7_move_X7_moveOn : GoodIn wsX7_move (va_wsS RX7 183 yX7_moveOn wsX7_moveOn) := goodIn_app (goodIn_r _ [39, 40, 4] rfl (by decide +kernel)) ggX7_move_X7_moveOn
theorem dX7_move_0 : decode cX7_move 0 = .ok (.aload_n 0, 1) := by decide +kernel
theorem dX7_move_1 : decode cX7_move 1 = .ok (.aload_n 0, 1) := by decide +kernel
theorem dX7_move_2 : decode cX7_move 2 = .ok (.getfield 13, 3) := by decide +kernel
theorem dX7_move_5 : decode cX7_move 5 = .ok (.iload_n 1, 1) := by decide +kernel
theorem dX7_move_6 : decode cX7_move 6 = .ok (.invokestatic 44, 3) := by decide +kernel
theorem dX7_move_9 : decode cX7_move 9 = .ok (.ifCond .eq 10, 3) := by decide +kernel
theorem dX7_move_12 : decode cX7_move 12 = .ok (.iload_n 2, 1) := by decide +kernel
theorem dX7_move_13 : decode cX7_move 13 = .ok (.invokestatic 118, 3) := by decide +kernel
theorem dX7_move_16 : decode cX7_move 16 = .ok (.ifCond .ne 7, 3) := by decide +kernel
theorem dX7_move_19 : decode cX7_move 19 = .ok (.iconst 1, 1) := by decide +kernel
theorem dX7_move_20 : decode cX7_move 20 = .ok (.goto 20, 3) := by decide +kernel
theorem dX7_move_23 : decode cX7_move 23 = .ok (.aload_n 0, 1) := by decide +kernel
theorem dX7_move_24 : decode cX7_move 24 = .ok (.getfield 13, 3) := by decide +kernel
theorem dX7_move_27 : decode cX7_move 27 = .ok (.iload_n 1, 1) := by decide +kernel
theorem dX7_move_28 : decode cX7_move 28 = .ok (.iload_n 2, 1) := by decide +kernel
theorem dX7_move_29 : decode cX7_move 29 = .ok (.invokestatic 179, 3) := by decide +kernel
theorem dX7_move_32 : decode cX7_move 32 = .ok (.ifCond .eq 7, 3) := by decide +kernel
theorem dX7_move_35 : decode cX7_move 35 = .ok (.iconst 0, 1) := by decide +kernel
theorem dX7_move_36 : decode cX7_move 36 = .ok (.goto 4, 3) := by decide +kernel
theorem dX7_move_39 : decode cX7_move 39 = .ok (.iconst 2, 1) := by decide +kernel
theorem dX7_move_40 : decode cX7_move 40 = .ok (.invokevirtual 137, 3) := by decide +kernel
theorem dX7_move_43 : decode cX7_move 43 = .ok (.ifCond .eq 5, 3) := by decide +kernel
theorem dX7_move_46 : decode cX7_move 46 = .ok (.iconst 0, 1) := by decide +kernel
theorem dX7_move_47 : decode cX7_move 47 = .ok (.ireturn, 1) := by decide +kernel
theorem dX7_move_48 : decode cX7_move 48 = .ok (.aload_n 0, 1) := by decide +kernel
theorem dX7_move_49 : decode cX7_move 49 = .ok (.invokevirtual 218, 3) := by decide +kernel
theorem dX7_move_52 : decode cX7_move 52 = .ok (.aload_n 0, 1) := by decide +kernel
theorem dX7_move_53 : decode cX7_move 53 = .ok (.getfield 13, 3) := by decide +kernel
theorem dX7_move_56 : decode cX7_move 56 = .ok (.iload_n 1, 1) := by decide +kernel
theorem dX7_move_57 : decode cX7_move 57 = .ok (.iload_n 2, 1) := by decide +kernel
theorem dX7_move_58 : decode cX7_move 58 = .ok (.invokestatic 183, 3) := by decide +kernel
theorem dX7_move_61 : decode cX7_move 61 = .ok (.ireturn, 1) := by decide +kernel
set_option maxRecDepth 20000 in
theorem ggX7_minutes_X7_in : GoodIn wsX7_minutes wsX7_in := goodIn_r _ [6] rfl (by decide +kernel)
set_option maxRecDepth 20000 in
theorem gX7_minutes_X7_in : GoodIn wsX7_minutes (va_wsS RX7 40 yX7_in wsX7_in) := goodIn_app (goodIn_r _ [3, 4, 5] rfl (by decide +kernel)) ggX7_minutes_X7_in
set_option maxRecDepth 20000 in
theorem ggX7_minutes_X7_refused : GoodIn wsX7_minutes wsX7_refused := goodIn_r _ [10, 11, 69, 70, 71, 72, 73, 74, 75, 76, 77, 78, 79, 80] rfl (by decide +kernel)
set_option maxRecDepth 20000 in
theorem gX7_minutes_X7_refused : GoodIn wsX7_minutes (wsV RX7 137 RX7 yX7_refused wsX7_refused) := goodIn_app (goodIn_r _ [7, 8, 9, 5] rfl (by decide +kernel)) ggX7_minutes_X7_refused
set_option maxRecDepth 20000 in
theorem ggX7_minutes_X7_remember : GoodIn wsX7_minutes wsX7_remember := goodIn_r _ [15, 16, 17, 2, 18, 19, 5, 20, 69, 70, 71, 72, 73, 74, 75, 76, 77, 78, 79, 80] rfl (by decide +kernel)
set_option maxRecDepth 20000 in
theorem gX7_minutes_X7_remember : GoodIn wsX7_minutes (wsV RX7 218 RX7 yX7_remember wsX7_remember) := goodIn_app (goodIn_r _ [12, 13, 14, 5] rfl (by decide +kernel)) ggX7_minutes_X7_remember
set_option maxRecDepth 20000 in
theorem ggX7_minutes_X7_minutesOn : GoodIn wsX7_minutes wsX7_minutesOn := goodIn_r _ [23, 24, 25, 5, 26, 27, 28, 29, 30, 31, 32, 33, 34, 35, 36, 37, 38, 39, 40, 41, 42, 43, 44, 45, 46, 47, 48, 49, 50, 51, 52, 53, 54, 55, 56, 57, 58, 59, 60, 61, 62, 63, 64, 65, 66, 67, 68] rfl (by decide +kernel)
set_option maxRecDepth 20000 in
theorem gX7_minutes_X7_minutesOn : GoodIn wsX7_minutes (va_wsS RX7 189 yX7_minutesOn wsX7_minutesOn) := goodIn_app (goodIn_r _ [21, 22, 5] rfl (by decide +kernel)) ggX7_minutes_X7_minutesOn
theorem dX7_minutes_0 : decode cX7_minutes 0 = .ok (.aload_n 0, 1) := by decide +kernel
theorem dX7_minutes_1 : decode cX7_minutes 1 = .ok (.iload_n 1, 1) := by decide +kernel
theorem dX7_minutes_2 : decode cX7_minutes 2 = .ok (.i2l, 1) := by decide +kernel
theorem dX7_minutes_3 : decode cX7_minutes 3 = .ok (.lconst 1, 1) := by decide +kernel
theorem dX7_minutes_4 : decode cX7_minutes 4 = .ok (.ldc2_w 226, 3) := by decide +kernel
theorem dX7_minutes_7 : decode cX7_minutes 7 = .ok (.invokestatic 40, 3) := by decide +kernel
theorem dX7_minutes_10 : decode cX7_minutes 10 = .ok (.ifCond .eq 7, 3) := by decide +kernel
theorem dX7_minutes_13 : decode cX7_minutes 13 = .ok (.iconst 0, 1) := by decide +kernel
theorem dX7_minutes_14 : decode cX7_minutes 14 = .ok (.goto 4, 3) := by decide +kernel
theorem dX7_minutes_17 : decode cX7_minutes 17 = .ok (.iconst 1, 1) := by decide +kernel
theorem dX7_minutes_18 : decode cX7_minutes 18 = .ok (.invokevirtual 137, 3) := by decide +kernel
theorem dX7_minutes_21 : decode cX7_minutes 21 = .ok (.ifCond .eq 5, 3) := by decide +kernel
theorem dX7_minutes_24 : decode cX7_minutes 24 = .ok (.iconst 0, 1) := by decide +kernel
theorem dX7_minutes_25 : decode cX7_minutes 25 = .ok (.ireturn, 1) := by decide +kernel
theorem dX7_minutes_26 : decode cX7_minutes 26 = .ok (.aload_n 0, 1) := by decide +kernel
theorem dX7_minutes_27 : decode cX7_minutes 27 = .ok (.invokevirtual 218, 3) := by decide +kernel
theorem dX7_minutes_30 : decode cX7_minutes 30 = .ok (.aload_n 0, 1) := by decide +kernel
theorem dX7_minutes_31 : decode cX7_minutes 31 = .ok (.getfield 13, 3) := by decide +kernel
theorem dX7_minutes_34 : decode cX7_minutes 34 = .ok (.iload_n 1, 1) := by decide +kernel
theorem dX7_minutes_35 : decode cX7_minutes 35 = .ok (.invokestatic 189, 3) := by decide +kernel
theorem dX7_minutes_38 : decode cX7_minutes 38 = .ok (.ireturn, 1) := by decide +kernel
set_option maxRecDepth 20000 in
theorem ggX7_set_X7_isSetting : GoodIn wsX7_set wsX7_isSetting := goodIn_r _ [5, 6, 7, 8, 9, 10, 4, 11] rfl (by decide +kernel)
set_option maxRecDepth 20000 in
theorem gX7_set_X7_isSetting : GoodIn wsX7_set (va_wsS RX7 228 yX7_isSetting wsX7_isSetting) := goodIn_app (goodIn_r _ [2, 3, 4] rfl (by decide +kernel)) ggX7_set_X7_isSetting
set_option maxRecDepth 20000 in
theorem ggX7_set_X7_refused : GoodIn wsX7_set wsX7_refused := goodIn_r _ [15, 16, 29, 30, 31, 32, 33, 34, 35, 36, 37, 38, 39, 40] rfl (by decide +kernel)
set_option maxRecDepth 20000 in
theorem gX7_set_X7_refused : GoodIn wsX7_set (wsV RX7 137 RX7 yX7_refused wsX7_refused) := goodIn_app (goodIn_r _ [12, 13, 14, 4] rfl (by decide +kernel)) ggX7_set_X7_refused
set_option maxRecDepth 20000 in
theorem ggX7_set_X7_remember : GoodIn wsX7_set wsX7_remember := goodIn_r _ [20, 21, 22, 1, 23, 24, 4, 25, 29, 30, 31, 32, 33, 34, 35, 36, 37, 38, 39, 40] rfl (by decide +kernel)
set_option maxRecDepth 20000 in
theorem gX7_set_X7_remember : GoodIn wsX7_set (wsV RX7 218 RX7 yX7_remember wsX7_remember) := goodIn_app (goodIn_r _ [17, 18, 19, 4] rfl (by decide +kernel)) ggX7_set_X7_remember
set_option maxRecDepth 20000 in
theorem ggX7_set_X7_change : GoodIn wsX7_set wsX7_change := goodIn_r _ [28] rfl (by decide +kernel)
set_option maxRecDepth 20000 in
theorem gX7_set_X7_change : GoodIn wsX7_set (va_wsS RX7 186 yX7_change wsX7_change) := goodIn_app (goodIn_r _ [26, 27, 4] rfl (by decide +kernel)) ggX7_set_X7_change
theorem dX7_set_0 : decode cX7_set 0 = .ok (.aload_n 0, 1) := by decide +kernel
theorem dX7_set_1 : decode cX7_set 1 = .ok (.iload_n 1, 1) := by decide +kernel
theorem dX7_set_2 : decode cX7_set 2 = .ok (.iload_n 2, 1) := by decide +kernel
theorem dX7_set_3 : decode cX7_set 3 = .ok (.invokestatic 228, 3) := by decide +kernel
theorem dX7_set_6 : decode cX7_set 6 = .ok (.ifCond .eq 7, 3) := by decide +kernel
theorem dX7_set_9 : decode cX7_set 9 = .ok (.iconst 0, 1) := by decide +kernel
theorem dX7_set_10 : decode cX7_set 10 = .ok (.goto 4, 3) := by decide +kernel
theorem dX7_set_13 : decode cX7_set 13 = .ok (.iconst 1, 1) := by decide +kernel
theorem dX7_set_14 : decode cX7_set 14 = .ok (.invokevirtual 137, 3) := by decide +kernel
theorem dX7_set_17 : decode cX7_set 17 = .ok (.ifCond .eq 5, 3) := by decide +kernel
theorem dX7_set_20 : decode cX7_set 20 = .ok (.iconst 0, 1) := by decide +kernel
theorem dX7_set_21 : decode cX7_set 21 = .ok (.ireturn, 1) := by decide +kernel
theorem dX7_set_22 : decode cX7_set 22 = .ok (.aload_n 0, 1) := by decide +kernel
theorem dX7_set_23 : decode cX7_set 23 = .ok (.invokevirtual 218, 3) := by decide +kernel
theorem dX7_set_26 : decode cX7_set 26 = .ok (.aload_n 0, 1) := by decide +kernel
theorem dX7_set_27 : decode cX7_set 27 = .ok (.getfield 13, 3) := by decide +kernel
theorem dX7_set_30 : decode cX7_set 30 = .ok (.iload_n 1, 1) := by decide +kernel
theorem dX7_set_31 : decode cX7_set 31 = .ok (.iload_n 2, 1) := by decide +kernel
theorem dX7_set_32 : decode cX7_set 32 = .ok (.invokestatic 186, 3) := by decide +kernel
theorem dX7_set_35 : decode cX7_set 35 = .ok (.ireturn, 1) := by decide +kernel
set_option maxRecDepth 20000 in
theorem ggX7_undo_X7_refused : GoodIn wsX7_undo wsX7_refused := goodIn_r _ [8, 9, 13, 14, 15, 16, 17, 18, 19, 20, 21, 22, 23, 24] rfl (by decide +kernel)
set_option maxRecDepth 20000 in
theorem gX7_undo_X7_refused : GoodIn wsX7_undo (wsV RX7 137 RX7 yX7_refused wsX7_refused) := goodIn_app (goodIn_r _ [4, 5, 6, 7] rfl (by decide +kernel)) ggX7_undo_X7_refused
set_option maxRecDepth 20000 in
theorem ggX7_undo_X7_copyState : GoodIn wsX7_undo wsX7_copyState := goodIn_r _ [12] rfl (by decide +kernel)
set_option maxRecDepth 20000 in
theorem gX7_undo_X7_copyState : GoodIn wsX7_undo (va_wsS RX7 198 yX7_copyState wsX7_copyState) := goodIn_app (goodIn_r _ [10, 11, 7] rfl (by decide +kernel)) ggX7_undo_X7_copyState
theorem dX7_undo_0 : decode cX7_undo 0 = .ok (.aload_n 0, 1) := by decide +kernel
theorem dX7_undo_1 : decode cX7_undo 1 = .ok (.aload_n 0, 1) := by decide +kernel
theorem dX7_undo_2 : decode cX7_undo 2 = .ok (.getfield 202, 3) := by decide +kernel
theorem dX7_undo_5 : decode cX7_undo 5 = .ok (.ifCond .ne 7, 3) := by decide +kernel
theorem dX7_undo_8 : decode cX7_undo 8 = .ok (.iconst 1, 1) := by decide +kernel
theorem dX7_undo_9 : decode cX7_undo 9 = .ok (.goto 4, 3) := by decide +kernel
theorem dX7_undo_12 : decode cX7_undo 12 = .ok (.iconst 0, 1) := by decide +kernel
theorem dX7_undo_13 : decode cX7_undo 13 = .ok (.invokevirtual 137, 3) := by decide +kernel
theorem dX7_undo_16 : decode cX7_undo 16 = .ok (.ifCond .eq 5, 3) := by decide +kernel
theorem dX7_undo_19 : decode cX7_undo 19 = .ok (.iconst 0, 1) := by decide +kernel
theorem dX7_undo_20 : decode cX7_undo 20 = .ok (.ireturn, 1) := by decide +kernel
theorem dX7_undo_21 : decode cX7_undo 21 = .ok (.aload_n 0, 1) := by decide +kernel
theorem dX7_undo_22 : decode cX7_undo 22 = .ok (.dup, 1) := by decide +kernel
theorem dX7_undo_23 : decode cX7_undo 23 = .ok (.getfield 202, 3) := by decide +kernel
theorem dX7_undo_26 : decode cX7_undo 26 = .ok (.iconst 1, 1) := by decide +kernel
theorem dX7_undo_27 : decode cX7_undo 27 = .ok (.isub, 1) := by decide +kernel
theorem dX7_undo_28 : decode cX7_undo 28 = .ok (.putfield 202, 3) := by decide +kernel
theorem dX7_undo_31 : decode cX7_undo 31 = .ok (.aload_n 0, 1) := by decide +kernel
theorem dX7_undo_32 : decode cX7_undo 32 = .ok (.getfield 22, 3) := by decide +kernel
theorem dX7_undo_35 : decode cX7_undo 35 = .ok (.sipush 327, 3) := by decide +kernel
theorem dX7_undo_38 : decode cX7_undo 38 = .ok (.aload_n 0, 1) := by decide +kernel
theorem dX7_undo_39 : decode cX7_undo 39 = .ok (.getfield 202, 3) := by decide +kernel
theorem dX7_undo_42 : decode cX7_undo 42 = .ok (.imul, 1) := by decide +kernel
theorem dX7_undo_43 : decode cX7_undo 43 = .ok (.aload_n 0, 1) := by decide +kernel
theorem dX7_undo_44 : decode cX7_undo 44 = .ok (.getfield 13, 3) := by decide +kernel
theorem dX7_undo_47 : decode cX7_undo 47 = .ok (.iconst 0, 1) := by decide +kernel
theorem dX7_undo_48 : decode cX7_undo 48 = .ok (.invokestatic 198, 3) := by decide +kernel
theorem dX7_undo_51 : decode cX7_undo 51 = .ok (.aload_n 0, 1) := by decide +kernel
theorem dX7_undo_52 : decode cX7_undo 52 = .ok (.getfield 202, 3) := by decide +kernel
theorem dX7_undo_55 : decode cX7_undo 55 = .ok (.ireturn, 1) := by decide +kernel
set_option maxRecDepth 20000 in
theorem ggX7_why_X7_isLength : GoodIn wsX7_why wsX7_isLength := goodIn_r _ [5, 6, 7, 8, 9, 4, 10] rfl (by decide +kernel)
set_option maxRecDepth 20000 in
theorem gX7_why_X7_isLength : GoodIn wsX7_why (va_wsS RX7 221 yX7_isLength wsX7_isLength) := goodIn_app (goodIn_r _ [2, 3, 4] rfl (by decide +kernel)) ggX7_why_X7_isLength
set_option maxRecDepth 20000 in
theorem ggX7_why_X7_refused : GoodIn wsX7_why wsX7_refused := goodIn_r _ [14, 15, 34, 35, 36, 37, 38, 39, 40, 41, 42, 43, 44, 45] rfl (by decide +kernel)
set_option maxRecDepth 20000 in
theorem gX7_why_X7_refused : GoodIn wsX7_why (wsV RX7 137 RX7 yX7_refused wsX7_refused) := goodIn_app (goodIn_r _ [11, 12, 13, 4] rfl (by decide +kernel)) ggX7_why_X7_refused
set_option maxRecDepth 20000 in
theorem ggX7_why_X7_reason : GoodIn wsX7_why wsX7_reason := goodIn_r _ [18, 19, 20, 4, 21, 22, 23, 24, 25, 26, 27, 28, 29, 30, 31, 32, 33] rfl (by decide +kernel)
set_option maxRecDepth 20000 in
theorem gX7_why_X7_reason : GoodIn wsX7_why (va_wsS RX7 232 yX7_reason wsX7_reason) := goodIn_app (goodIn_r _ [16, 17, 4] rfl (by decide +kernel)) ggX7_why_X7_reason
theorem dX7_why_0 : decode cX7_why 0 = .ok (.aload_n 0, 1) := by decide +kernel
theorem dX7_why_1 : decode cX7_why 1 = .ok (.iload_n 1, 1) := by decide +kernel
theorem dX7_why_2 : decode cX7_why 2 = .ok (.invokestatic 221, 3) := by decide +kernel
theorem dX7_why_5 : decode cX7_why 5 = .ok (.ifCond .eq 7, 3) := by decide +kernel
theorem dX7_why_8 : decode cX7_why 8 = .ok (.iconst 0, 1) := by decide +kernel
theorem dX7_why_9 : decode cX7_why 9 = .ok (.goto 4, 3) := by decide +kernel
theorem dX7_why_12 : decode cX7_why 12 = .ok (.iconst 1, 1) := by decide +kernel
theorem dX7_why_13 : decode cX7_why 13 = .ok (.invokevirtual 137, 3) := by decide +kernel
theorem dX7_why_16 : decode cX7_why 16 = .ok (.ifCond .eq 5, 3) := by decide +kernel
theorem dX7_why_19 : decode cX7_why 19 = .ok (.iconst 0, 1) := by decide +kernel
theorem dX7_why_20 : decode cX7_why 20 = .ok (.ireturn, 1) := by decide +kernel
theorem dX7_why_21 : decode cX7_why 21 = .ok (.aload_n 0, 1) := by decide +kernel
theorem dX7_why_22 : decode cX7_why 22 = .ok (.getfield 13, 3) := by decide +kernel
theorem dX7_why_25 : decode cX7_why 25 = .ok (.iload_n 1, 1) := by decide +kernel
theorem dX7_why_26 : decode cX7_why 26 = .ok (.invokestatic 232, 3) := by decide +kernel
theorem dX7_why_29 : decode cX7_why 29 = .ok (.ireturn, 1) := by decide +kernel
set_option maxRecDepth 20000 in
theorem ggX7_place_X7_isLength : GoodIn wsX7_place wsX7_isLength := goodIn_r _ [6, 7, 8, 9, 10, 5, 11] rfl (by decide +kernel)
set_option maxRecDepth 20000 in
theorem gX7_place_X7_isLength : GoodIn wsX7_place (va_wsS RX7 221 yX7_isLength wsX7_isLength) := goodIn_app (goodIn_r _ [3, 4, 5] rfl (by decide +kernel)) ggX7_place_X7_isLength
set_option maxRecDepth 20000 in
theorem ggX7_place_X7_refused : GoodIn wsX7_place wsX7_refused := goodIn_r _ [15, 16, 47, 48, 49, 50, 51, 52, 53, 54, 55, 56, 57, 58] rfl (by decide +kernel)
set_option maxRecDepth 20000 in
theorem gX7_place_X7_refused : GoodIn wsX7_place (wsV RX7 137 RX7 yX7_refused wsX7_refused) := goodIn_app (goodIn_r _ [12, 13, 14, 5] rfl (by decide +kernel)) ggX7_place_X7_refused
set_option maxRecDepth 20000 in
theorem ggX7_place_X7_copyState : GoodIn wsX7_place wsX7_copyState := goodIn_r _ [19] rfl (by decide +kernel)
set_option maxRecDepth 20000 in
theorem gX7_place_X7_copyState : GoodIn wsX7_place (va_wsS RX7 198 yX7_copyState wsX7_copyState) := goodIn_app (goodIn_r _ [17, 18, 5] rfl (by decide +kernel)) ggX7_place_X7_copyState
set_option maxRecDepth 20000 in
theorem ggX7_place_X7_placeFor : GoodIn wsX7_place wsX7_placeFor := goodIn_r _ [22, 23, 24, 5, 25, 26, 27, 28, 29, 30, 31, 32, 33, 34, 35, 36, 37, 38, 39, 40, 41, 42, 43, 44, 45, 46] rfl (by decide +kernel)
set_option maxRecDepth 20000 in
theorem gX7_place_X7_placeFor : GoodIn wsX7_place (va_wsS RX7 99 yX7_placeFor wsX7_placeFor) := goodIn_app (goodIn_r _ [20, 21, 5] rfl (by decide +kernel)) ggX7_place_X7_placeFor
theorem dX7_place_0 : decode cX7_place 0 = .ok (.aload_n 0, 1) := by decide +kernel
theorem dX7_place_1 : decode cX7_place 1 = .ok (.iload_n 1, 1) := by decide +kernel
theorem dX7_place_2 : decode cX7_place 2 = .ok (.invokestatic 221, 3) := by decide +kernel
theorem dX7_place_5 : decode cX7_place 5 = .ok (.ifCond .eq 7, 3) := by decide +kernel
theorem dX7_place_8 : decode cX7_place 8 = .ok (.iconst 0, 1) := by decide +kernel
theorem dX7_place_9 : decode cX7_place 9 = .ok (.goto 4, 3) := by decide +kernel
theorem dX7_place_12 : decode cX7_place 12 = .ok (.iconst 1, 1) := by decide +kernel
theorem dX7_place_13 : decode cX7_place 13 = .ok (.invokevirtual 137, 3) := by decide +kernel
theorem dX7_place_16 : decode cX7_place 16 = .ok (.ifCond .eq 5, 3) := by decide +kernel
theorem dX7_place_19 : decode cX7_place 19 = .ok (.iconst 0, 1) := by decide +kernel
theorem dX7_place_20 : decode cX7_place 20 = .ok (.ireturn, 1) := by decide +kernel
theorem dX7_place_21 : decode cX7_place 21 = .ok (.aload_n 0, 1) := by decide +kernel
theorem dX7_place_22 : decode cX7_place 22 = .ok (.getfield 13, 3) := by decide +kernel
theorem dX7_place_25 : decode cX7_place 25 = .ok (.iconst 0, 1) := by decide +kernel
theorem dX7_place_26 : decode cX7_place 26 = .ok (.aload_n 0, 1) := by decide +kernel
theorem dX7_place_27 : decode cX7_place 27 = .ok (.getfield 16, 3) := by decide +kernel
theorem dX7_place_30 : decode cX7_place 30 = .ok (.iconst 0, 1) := by decide +kernel
theorem dX7_place_31 : decode cX7_place 31 = .ok (.invokestatic 198, 3) := by decide +kernel
theorem dX7_place_34 : decode cX7_place 34 = .ok (.aload_n 0, 1) := by decide +kernel
theorem dX7_place_35 : decode cX7_place 35 = .ok (.getfield 16, 3) := by decide +kernel
theorem dX7_place_38 : decode cX7_place 38 = .ok (.iload_n 1, 1) := by decide +kernel
theorem dX7_place_39 : decode cX7_place 39 = .ok (.invokestatic 99, 3) := by decide +kernel
theorem dX7_place_42 : decode cX7_place 42 = .ok (.ireturn, 1) := by decide +kernel
set_option maxRecDepth 20000 in
theorem ggX7_fitsIn_X7_gapFrom : GoodIn wsX7_fitsIn wsX7_gapFrom := goodIn_r _ [4] rfl (by decide +kernel)
set_option maxRecDepth 20000 in
theorem gX7_fitsIn_X7_gapFrom : GoodIn wsX7_fitsIn (va_wsS RX7 66 yX7_gapFrom wsX7_gapFrom) := goodIn_app (goodIn_r _ [1, 2, 3] rfl (by decide +kernel)) ggX7_fitsIn_X7_gapFrom
set_option maxRecDepth 20000 in
theorem ggX7_fitsIn_X7_gapCells : GoodIn wsX7_fitsIn wsX7_gapCells := goodIn_r _ [7] rfl (by decide +kernel)
set_option maxRecDepth 20000 in
theorem gX7_fitsIn_X7_gapCells : GoodIn wsX7_fitsIn (va_wsS RX7 62 yX7_gapCells wsX7_gapCells) := goodIn_app (goodIn_r _ [5, 6, 3] rfl (by decide +kernel)) ggX7_fitsIn_X7_gapCells
set_option maxRecDepth 20000 in
theorem ggX7_fitsIn_X7_nextGap : GoodIn wsX7_fitsIn wsX7_nextGap := goodIn_r _ [10, 5, 6, 3, 7, 1, 2, 4] rfl (by decide +kernel)
set_option maxRecDepth 20000 in
theorem gX7_fitsIn_X7_nextGap : GoodIn wsX7_fitsIn (va_wsS RX7 69 yX7_nextGap wsX7_nextGap) := goodIn_app (goodIn_r _ [8, 9, 3] rfl (by decide +kernel)) ggX7_fitsIn_X7_nextGap
theorem dX7_fitsIn_0 : decode cX7_fitsIn 0 = .ok (.iconst 0, 1) := by decide +kernel
theorem dX7_fitsIn_1 : decode cX7_fitsIn 1 = .ok (.istore_n 2, 1) := by decide +kernel
theorem dX7_fitsIn_2 : decode cX7_fitsIn 2 = .ok (.aload_n 0, 1) := by decide +kernel
theorem dX7_fitsIn_3 : decode cX7_fitsIn 3 = .ok (.iconst 0, 1) := by decide +kernel
theorem dX7_fitsIn_4 : decode cX7_fitsIn 4 = .ok (.invokestatic 66, 3) := by decide +kernel
theorem dX7_fitsIn_7 : decode cX7_fitsIn 7 = .ok (.istore_n 3, 1) := by decide +kernel
theorem dX7_fitsIn_8 : decode cX7_fitsIn 8 = .ok (.iload_n 3, 1) := by decide +kernel
theorem dX7_fitsIn_9 : decode cX7_fitsIn 9 = .ok (.bipush 80, 2) := by decide +kernel
theorem dX7_fitsIn_11 : decode cX7_fitsIn 11 = .ok (.if_icmp .ge 39, 3) := by decide +kernel
theorem dX7_fitsIn_14 : decode cX7_fitsIn 14 = .ok (.aload_n 0, 1) := by decide +kernel
theorem dX7_fitsIn_15 : decode cX7_fitsIn 15 = .ok (.iload_n 3, 1) := by decide +kernel
theorem dX7_fitsIn_16 : decode cX7_fitsIn 16 = .ok (.invokestatic 62, 3) := by decide +kernel
theorem dX7_fitsIn_19 : decode cX7_fitsIn 19 = .ok (.aload_n 0, 1) := by decide +kernel
theorem dX7_fitsIn_20 : decode cX7_fitsIn 20 = .ok (.iconst 3, 1) := by decide +kernel
theorem dX7_fitsIn_21 : decode cX7_fitsIn 21 = .ok (.iaload, 1) := by decide +kernel
theorem dX7_fitsIn_22 : decode cX7_fitsIn 22 = .ok (.isub, 1) := by decide +kernel
theorem dX7_fitsIn_23 : decode cX7_fitsIn 23 = .ok (.istore 4, 2) := by decide +kernel
theorem dX7_fitsIn_25 : decode cX7_fitsIn 25 = .ok (.iload_n 2, 1) := by decide +kernel
theorem dX7_fitsIn_26 : decode cX7_fitsIn 26 = .ok (.iload 4, 2) := by decide +kernel
theorem dX7_fitsIn_28 : decode cX7_fitsIn 28 = .ok (.ifCond .le 10, 3) := by decide +kernel
theorem dX7_fitsIn_31 : decode cX7_fitsIn 31 = .ok (.iload 4, 2) := by decide +kernel
theorem dX7_fitsIn_33 : decode cX7_fitsIn 33 = .ok (.iload_n 1, 1) := by decide +kernel
theorem dX7_fitsIn_34 : decode cX7_fitsIn 34 = .ok (.idiv, 1) := by decide +kernel
theorem dX7_fitsIn_35 : decode cX7_fitsIn 35 = .ok (.goto 4, 3) := by decide +kernel
theorem dX7_fitsIn_38 : decode cX7_fitsIn 38 = .ok (.iconst 0, 1) := by decide +kernel
theorem dX7_fitsIn_39 : decode cX7_fitsIn 39 = .ok (.iadd, 1) := by decide +kernel
theorem dX7_fitsIn_40 : decode cX7_fitsIn 40 = .ok (.istore_n 2, 1) := by decide +kernel
theorem dX7_fitsIn_41 : decode cX7_fitsIn 41 = .ok (.aload_n 0, 1) := by decide +kernel
theorem dX7_fitsIn_42 : decode cX7_fitsIn 42 = .ok (.iload_n 3, 1) := by decide +kernel
theorem dX7_fitsIn_43 : decode cX7_fitsIn 43 = .ok (.invokestatic 69, 3) := by decide +kernel
theorem dX7_fitsIn_46 : decode cX7_fitsIn 46 = .ok (.istore_n 3, 1) := by decide +kernel
theorem dX7_fitsIn_47 : decode cX7_fitsIn 47 = .ok (.goto (-39), 3) := by decide +kernel
theorem dX7_fitsIn_50 : decode cX7_fitsIn 50 = .ok (.iload_n 2, 1) := by decide +kernel
theorem dX7_fitsIn_51 : decode cX7_fitsIn 51 = .ok (.ireturn, 1) := by decide +kernel
set_option maxRecDepth 20000 in
theorem ggX7_fits_X7_isLength : GoodIn wsX7_fits wsX7_isLength := goodIn_r _ [5, 6, 7, 8, 9, 4, 10] rfl (by decide +kernel)
set_option maxRecDepth 20000 in
theorem gX7_fits_X7_isLength : GoodIn wsX7_fits (va_wsS RX7 221 yX7_isLength wsX7_isLength) := goodIn_app (goodIn_r _ [2, 3, 4] rfl (by decide +kernel)) ggX7_fits_X7_isLength
set_option maxRecDepth 20000 in
theorem ggX7_fits_X7_in : GoodIn wsX7_fits wsX7_in := goodIn_r _ [10] rfl (by decide +kernel)
set_option maxRecDepth 20000 in
theorem gX7_fits_X7_in : GoodIn wsX7_fits (va_wsS RX7 40 yX7_in wsX7_in) := goodIn_app (goodIn_r _ [8, 9, 4] rfl (by decide +kernel)) ggX7_fits_X7_in
set_option maxRecDepth 20000 in
theorem ggX7_fits_X7_refused : GoodIn wsX7_fits wsX7_refused := goodIn_r _ [14, 15, 28, 29, 30, 31, 32, 33, 34, 35, 36, 37, 38, 39] rfl (by decide +kernel)
set_option maxRecDepth 20000 in
theorem gX7_fits_X7_refused : GoodIn wsX7_fits (wsV RX7 137 RX7 yX7_refused wsX7_refused) := goodIn_app (goodIn_r _ [11, 12, 13, 4] rfl (by decide +kernel)) ggX7_fits_X7_refused
set_option maxRecDepth 20000 in
theorem ggX7_fits_X7_fitsIn : GoodIn wsX7_fits wsX7_fitsIn := goodIn_r _ [18, 19, 20, 4, 21, 22, 23, 24, 25, 26, 27] rfl (by decide +kernel)
set_option maxRecDepth 20000 in
theorem gX7_fits_X7_fitsIn : GoodIn wsX7_fits (va_wsS RX7 235 yX7_fitsIn wsX7_fitsIn) := goodIn_app (goodIn_r _ [16, 17, 4] rfl (by decide +kernel)) ggX7_fits_X7_fitsIn
theorem dX7_fits_0 : decode cX7_fits 0 = .ok (.aload_n 0, 1) := by decide +kernel
theorem dX7_fits_1 : decode cX7_fits 1 = .ok (.iload_n 1, 1) := by decide +kernel
theorem dX7_fits_2 : decode cX7_fits 2 = .ok (.invokestatic 221, 3) := by decide +kernel
theorem dX7_fits_5 : decode cX7_fits 5 = .ok (.ifCond .eq 17, 3) := by decide +kernel
theorem dX7_fits_8 : decode cX7_fits 8 = .ok (.iload_n 2, 1) := by decide +kernel
theorem dX7_fits_9 : decode cX7_fits 9 = .ok (.i2l, 1) := by decide +kernel
theorem dX7_fits_10 : decode cX7_fits 10 = .ok (.lconst 0, 1) := by decide +kernel
theorem dX7_fits_11 : decode cX7_fits 11 = .ok (.lconst 1, 1) := by decide +kernel
theorem dX7_fits_12 : decode cX7_fits 12 = .ok (.invokestatic 40, 3) := by decide +kernel
theorem dX7_fits_15 : decode cX7_fits 15 = .ok (.ifCond .eq 7, 3) := by decide +kernel
theorem dX7_fits_18 : decode cX7_fits 18 = .ok (.iconst 0, 1) := by decide +kernel
theorem dX7_fits_19 : decode cX7_fits 19 = .ok (.goto 4, 3) := by decide +kernel
theorem dX7_fits_22 : decode cX7_fits 22 = .ok (.iconst 1, 1) := by decide +kernel
theorem dX7_fits_23 : decode cX7_fits 23 = .ok (.invokevirtual 137, 3) := by decide +kernel
theorem dX7_fits_26 : decode cX7_fits 26 = .ok (.ifCond .eq 5, 3) := by decide +kernel
theorem dX7_fits_29 : decode cX7_fits 29 = .ok (.iconst 0, 1) := by decide +kernel
theorem dX7_fits_30 : decode cX7_fits 30 = .ok (.ireturn, 1) := by decide +kernel
theorem dX7_fits_31 : decode cX7_fits 31 = .ok (.aload_n 0, 1) := by decide +kernel
theorem dX7_fits_32 : decode cX7_fits 32 = .ok (.getfield 13, 3) := by decide +kernel
theorem dX7_fits_35 : decode cX7_fits 35 = .ok (.iload_n 1, 1) := by decide +kernel
theorem dX7_fits_36 : decode cX7_fits 36 = .ok (.invokestatic 235, 3) := by decide +kernel
theorem dX7_fits_39 : decode cX7_fits 39 = .ok (.ireturn, 1) := by decide +kernel
set_option maxRecDepth 20000 in
theorem ggX7_gapIn_X7_isLength : GoodIn wsX7_gapIn wsX7_isLength := goodIn_r _ [6, 7, 8, 9, 10, 5, 11] rfl (by decide +kernel)
set_option maxRecDepth 20000 in
theorem gX7_gapIn_X7_isLength : GoodIn wsX7_gapIn (va_wsS RX7 221 yX7_isLength wsX7_isLength) := goodIn_app (goodIn_r _ [3, 4, 5] rfl (by decide +kernel)) ggX7_gapIn_X7_isLength
set_option maxRecDepth 20000 in
theorem ggX7_gapIn_X7_refused : GoodIn wsX7_gapIn wsX7_refused := goodIn_r _ [15, 16, 71, 72, 73, 74, 75, 76, 77, 78, 79, 80, 81, 82] rfl (by decide +kernel)
set_option maxRecDepth 20000 in
theorem gX7_gapIn_X7_refused : GoodIn wsX7_gapIn (wsV RX7 137 RX7 yX7_refused wsX7_refused) := goodIn_app (goodIn_r _ [12, 13, 14, 5] rfl (by decide +kernel)) ggX7_gapIn_X7_refused
set_option maxRecDepth 20000 in
theorem ggX7_gapIn_X7_copyState : GoodIn wsX7_gapIn wsX7_copyState := goodIn_r _ [19] rfl (by decide +kernel)
set_option maxRecDepth 20000 in
theorem gX7_gapIn_X7_copyState : GoodIn wsX7_gapIn (va_wsS RX7 198 yX7_copyState wsX7_copyState) := goodIn_app (goodIn_r _ [17, 18, 5] rfl (by decide +kernel)) ggX7_gapIn_X7_copyState
set_option maxRecDepth 20000 in
theorem ggX7_gapIn_X7_suffices : GoodIn wsX7_gapIn wsX7_suffices := goodIn_r _ [22, 23, 24, 5, 25, 26, 27, 28, 29, 30, 31, 32, 33, 34] rfl (by decide +kernel)
set_option maxRecDepth 20000 in
theorem gX7_gapIn_X7_suffices : GoodIn wsX7_gapIn (va_wsS RX7 76 yX7_suffices wsX7_suffices) := goodIn_app (goodIn_r _ [20, 21, 5] rfl (by decide +kernel)) ggX7_gapIn_X7_suffices
set_option maxRecDepth 20000 in
theorem ggX7_gapIn_X7_minute : GoodIn wsX7_gapIn wsX7_minute := goodIn_r _ [37, 38, 39, 5, 40, 41, 42, 43, 44, 45, 46, 47, 48, 49, 50, 51, 52, 53, 54, 55, 56, 57, 58, 59, 60, 26, 27, 28, 29, 30, 31, 32, 33, 34, 61, 62, 63, 64, 65, 66, 67, 68, 69, 70] rfl (by decide +kernel)
set_option maxRecDepth 20000 in
theorem gX7_gapIn_X7_minute : GoodIn wsX7_gapIn (va_wsS RX7 115 yX7_minute wsX7_minute) := goodIn_app (goodIn_r _ [35, 36, 5] rfl (by decide +kernel)) ggX7_gapIn_X7_minute
theorem dX7_gapIn_0 : decode cX7_gapIn 0 = .ok (.aload_n 0, 1) := by decide +kernel
theorem dX7_gapIn_1 : decode cX7_gapIn 1 = .ok (.iload_n 1, 1) := by decide +kernel
theorem dX7_gapIn_2 : decode cX7_gapIn 2 = .ok (.invokestatic 221, 3) := by decide +kernel
theorem dX7_gapIn_5 : decode cX7_gapIn 5 = .ok (.ifCond .eq 7, 3) := by decide +kernel
theorem dX7_gapIn_8 : decode cX7_gapIn 8 = .ok (.iconst 0, 1) := by decide +kernel
theorem dX7_gapIn_9 : decode cX7_gapIn 9 = .ok (.goto 4, 3) := by decide +kernel
theorem dX7_gapIn_12 : decode cX7_gapIn 12 = .ok (.iconst 1, 1) := by decide +kernel
theorem dX7_gapIn_13 : decode cX7_gapIn 13 = .ok (.invokevirtual 137, 3) := by decide +kernel
