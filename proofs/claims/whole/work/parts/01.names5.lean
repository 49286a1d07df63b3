theorem dX6_end_254 : decode cX6_end 254 = .ok (.getfield 169, 3) := by decide +kernel
theorem dX6_end_257 : decode cX6_end 257 = .ok (.iconst 1, 1) := by decide +kernel
theorem dX6_end_258 : decode cX6_end 258 = .ok (.iadd, 1) := by decide +kernel
theorem dX6_end_259 : decode cX6_end 259 = .ok (.putfield 169, 3) := by decide +kernel
theorem dX6_end_262 : decode cX6_end 262 = .ok (.aload_n 0, 1) := by decide +kernel
theorem dX6_end_263 : decode cX6_end 263 = .ok (.getfield 92, 3) := by decide +kernel
theorem dX6_end_266 : decode cX6_end 266 = .ok (.iload_n 1, 1) := by decide +kernel
theorem dX6_end_267 : decode cX6_end 267 = .ok (.isub, 1) := by decide +kernel
theorem dX6_end_268 : decode cX6_end 268 = .ok (.istore 4, 2) := by decide +kernel
theorem dX6_end_270 : decode cX6_end 270 = .ok (.aload_n 0, 1) := by decide +kernel
theorem dX6_end_271 : decode cX6_end 271 = .ok (.getfield 89, 3) := by decide +kernel
theorem dX6_end_274 : decode cX6_end 274 = .ok (.iconst 1, 1) := by decide +kernel
theorem dX6_end_275 : decode cX6_end 275 = .ok (.isub, 1) := by decide +kernel
theorem dX6_end_276 : decode cX6_end 276 = .ok (.istore 5, 2) := by decide +kernel
theorem dX6_end_278 : decode cX6_end 278 = .ok (.iload 5, 2) := by decide +kernel
theorem dX6_end_280 : decode cX6_end 280 = .ok (.ifCond .lt 20, 3) := by decide +kernel
theorem dX6_end_283 : decode cX6_end 283 = .ok (.aload_n 0, 1) := by decide +kernel
theorem dX6_end_284 : decode cX6_end 284 = .ok (.iload 5, 2) := by decide +kernel
theorem dX6_end_286 : decode cX6_end 286 = .ok (.iload 5, 2) := by decide +kernel
theorem dX6_end_288 : decode cX6_end 288 = .ok (.iload 4, 2) := by decide +kernel
theorem dX6_end_290 : decode cX6_end 290 = .ok (.iadd, 1) := by decide +kernel
theorem dX6_end_291 : decode cX6_end 291 = .ok (.invokevirtual 110, 3) := by decide +kernel
theorem dX6_end_294 : decode cX6_end 294 = .ok (.iinc 5 (-1), 3) := by decide +kernel
theorem dX6_end_297 : decode cX6_end 297 = .ok (.goto (-19), 3) := by decide +kernel
theorem dX6_end_300 : decode cX6_end 300 = .ok (.iconst 0, 1) := by decide +kernel
theorem dX6_end_301 : decode cX6_end 301 = .ok (.istore 5, 2) := by decide +kernel
theorem dX6_end_303 : decode cX6_end 303 = .ok (.iload 5, 2) := by decide +kernel
theorem dX6_end_305 : decode cX6_end 305 = .ok (.iload 4, 2) := by decide +kernel
theorem dX6_end_307 : decode cX6_end 307 = .ok (.if_icmp .ge 23, 3) := by decide +kernel
theorem dX6_end_310 : decode cX6_end 310 = .ok (.aload_n 0, 1) := by decide +kernel
theorem dX6_end_311 : decode cX6_end 311 = .ok (.sipush 4200, 3) := by decide +kernel
theorem dX6_end_314 : decode cX6_end 314 = .ok (.iload_n 1, 1) := by decide +kernel
theorem dX6_end_315 : decode cX6_end 315 = .ok (.iadd, 1) := by decide +kernel
theorem dX6_end_316 : decode cX6_end 316 = .ok (.iload 5, 2) := by decide +kernel
theorem dX6_end_318 : decode cX6_end 318 = .ok (.iadd, 1) := by decide +kernel
theorem dX6_end_319 : decode cX6_end 319 = .ok (.iload 5, 2) := by decide +kernel
theorem dX6_end_321 : decode cX6_end 321 = .ok (.invokevirtual 110, 3) := by decide +kernel
theorem dX6_end_324 : decode cX6_end 324 = .ok (.iinc 5 1, 3) := by decide +kernel
theorem dX6_end_327 : decode cX6_end 327 = .ok (.goto (-24), 3) := by decide +kernel
theorem dX6_end_330 : decode cX6_end 330 = .ok (.aload_n 0, 1) := by decide +kernel
theorem dX6_end_331 : decode cX6_end 331 = .ok (.dup, 1) := by decide +kernel
theorem dX6_end_332 : decode cX6_end 332 = .ok (.getfield 89, 3) := by decide +kernel
theorem dX6_end_335 : decode cX6_end 335 = .ok (.iload 4, 2) := by decide +kernel
theorem dX6_end_337 : decode cX6_end 337 = .ok (.iadd, 1) := by decide +kernel
theorem dX6_end_338 : decode cX6_end 338 = .ok (.putfield 89, 3) := by decide +kernel
theorem dX6_end_341 : decode cX6_end 341 = .ok (.aload_n 0, 1) := by decide +kernel
theorem dX6_end_342 : decode cX6_end 342 = .ok (.iconst 0, 1) := by decide +kernel
theorem dX6_end_343 : decode cX6_end 343 = .ok (.putfield 92, 3) := by decide +kernel
theorem dX6_end_346 : decode cX6_end 346 = .ok (.aload_n 0, 1) := by decide +kernel
theorem dX6_end_347 : decode cX6_end 347 = .ok (.iconst (-1), 1) := by decide +kernel
theorem dX6_end_348 : decode cX6_end 348 = .ok (.putfield 47, 3) := by decide +kernel
theorem dX6_end_351 : decode cX6_end 351 = .ok (.iconst 1, 1) := by decide +kernel
theorem dX6_end_352 : decode cX6_end 352 = .ok (.ireturn, 1) := by decide +kernel
set_option maxRecDepth 20000 in
theorem ggX6_begin_X6_write : GoodIn wsX6_begin wsX6_write := goodIn_r _ [16, 17, 18, 7, 19, 20, 21, 22, 23, 24, 25, 26, 27, 28, 29, 30, 31, 32, 33, 34, 35, 36, 37, 38, 39, 40, 41, 42, 43, 44, 45, 46, 47, 48, 49, 50, 51, 52, 53, 54, 55] rfl (by decide +kernel)
set_option maxRecDepth 20000 in
theorem gX6_begin_X6_write : GoodIn wsX6_begin (wsV RX6 102 RX6 yX6_write wsX6_write) := goodIn_app (goodIn_of _ (by decide +kernel)) ggX6_begin_X6_write
theorem dX6_begin_0 : decode cX6_begin 0 = .ok (.aload_n 0, 1) := by decide +kernel
theorem dX6_begin_1 : decode cX6_begin 1 = .ok (.aload_n 0, 1) := by decide +kernel
theorem dX6_begin_2 : decode cX6_begin 2 = .ok (.getfield 67, 3) := by decide +kernel
theorem dX6_begin_5 : decode cX6_begin 5 = .ok (.putfield 138, 3) := by decide +kernel
theorem dX6_begin_8 : decode cX6_begin 8 = .ok (.aload_n 0, 1) := by decide +kernel
theorem dX6_begin_9 : decode cX6_begin 9 = .ok (.aload_n 0, 1) := by decide +kernel
theorem dX6_begin_10 : decode cX6_begin 10 = .ok (.getfield 70, 3) := by decide +kernel
theorem dX6_begin_13 : decode cX6_begin 13 = .ok (.putfield 151, 3) := by decide +kernel
theorem dX6_begin_16 : decode cX6_begin 16 = .ok (.aload_n 0, 1) := by decide +kernel
theorem dX6_begin_17 : decode cX6_begin 17 = .ok (.iconst (-1), 1) := by decide +kernel
theorem dX6_begin_18 : decode cX6_begin 18 = .ok (.putfield 47, 3) := by decide +kernel
theorem dX6_begin_21 : decode cX6_begin 21 = .ok (.aload_n 0, 1) := by decide +kernel
theorem dX6_begin_22 : decode cX6_begin 22 = .ok (.getfield 77, 3) := by decide +kernel
theorem dX6_begin_25 : decode cX6_begin 25 = .ok (.i2l, 1) := by decide +kernel
theorem dX6_begin_26 : decode cX6_begin 26 = .ok (.aload_n 0, 1) := by decide +kernel
theorem dX6_begin_27 : decode cX6_begin 27 = .ok (.getfield 16, 3) := by decide +kernel
theorem dX6_begin_30 : decode cX6_begin 30 = .ok (.iconst 0, 1) := by decide +kernel
theorem dX6_begin_31 : decode cX6_begin 31 = .ok (.iaload, 1) := by decide +kernel
theorem dX6_begin_32 : decode cX6_begin 32 = .ok (.i2l, 1) := by decide +kernel
theorem dX6_begin_33 : decode cX6_begin 33 = .ok (.lsub, 1) := by decide +kernel
theorem dX6_begin_34 : decode cX6_begin 34 = .ok (.lstore_n 1, 1) := by decide +kernel
theorem dX6_begin_35 : decode cX6_begin 35 = .ok (.aload_n 0, 1) := by decide +kernel
theorem dX6_begin_36 : decode cX6_begin 36 = .ok (.sipush 4200, 3) := by decide +kernel
theorem dX6_begin_39 : decode cX6_begin 39 = .ok (.iconst 5, 1) := by decide +kernel
theorem dX6_begin_40 : decode cX6_begin 40 = .ok (.lload_n 1, 1) := by decide +kernel
theorem dX6_begin_41 : decode cX6_begin 41 = .ok (.lconst 0, 1) := by decide +kernel
theorem dX6_begin_42 : decode cX6_begin 42 = .ok (.lcmp, 1) := by decide +kernel
theorem dX6_begin_43 : decode cX6_begin 43 = .ok (.ifCond .ge 7, 3) := by decide +kernel
theorem dX6_begin_46 : decode cX6_begin 46 = .ok (.lconst 0, 1) := by decide +kernel
theorem dX6_begin_47 : decode cX6_begin 47 = .ok (.goto 4, 3) := by decide +kernel
theorem dX6_begin_50 : decode cX6_begin 50 = .ok (.lload_n 1, 1) := by decide +kernel
theorem dX6_begin_51 : decode cX6_begin 51 = .ok (.l2i, 1) := by decide +kernel
theorem dX6_begin_52 : decode cX6_begin 52 = .ok (.iconst 0, 1) := by decide +kernel
theorem dX6_begin_53 : decode cX6_begin 53 = .ok (.iconst 0, 1) := by decide +kernel
theorem dX6_begin_54 : decode cX6_begin 54 = .ok (.aload_n 0, 1) := by decide +kernel
theorem dX6_begin_55 : decode cX6_begin 55 = .ok (.getfield 80, 3) := by decide +kernel
theorem dX6_begin_58 : decode cX6_begin 58 = .ok (.aload_n 0, 1) := by decide +kernel
theorem dX6_begin_59 : decode cX6_begin 59 = .ok (.getfield 83, 3) := by decide +kernel
theorem dX6_begin_62 : decode cX6_begin 62 = .ok (.aload_n 0, 1) := by decide +kernel
theorem dX6_begin_63 : decode cX6_begin 63 = .ok (.getfield 86, 3) := by decide +kernel
theorem dX6_begin_66 : decode cX6_begin 66 = .ok (.invokevirtual 102, 3) := by decide +kernel
theorem dX6_begin_69 : decode cX6_begin 69 = .ok (.aload_n 0, 1) := by decide +kernel
theorem dX6_begin_70 : decode cX6_begin 70 = .ok (.iconst 1, 1) := by decide +kernel
theorem dX6_begin_71 : decode cX6_begin 71 = .ok (.putfield 92, 3) := by decide +kernel
theorem dX6_begin_74 : decode cX6_begin 74 = .ok (.return_, 1) := by decide +kernel
set_option maxRecDepth 20000 in
theorem ggX6_come_X6_isSolid : GoodIn wsX6_come wsX6_isSolid := goodIn_r _ [12, 1, 84, 85, 86, 87, 88, 89, 90, 91, 92, 93, 94, 95, 96, 97, 98, 99, 100, 101, 102, 103, 104, 105, 106, 107, 108, 109, 110, 111, 112, 113, 114, 115] rfl (by decide +kernel)
set_option maxRecDepth 20000 in
theorem gX6_come_X6_isSolid : GoodIn wsX6_come (wsV RX6 127 RX6 yX6_isSolid wsX6_isSolid) := goodIn_app (goodIn_of _ (by decide +kernel)) ggX6_come_X6_isSolid
set_option maxRecDepth 20000 in
theorem ggX6_come_X6_sums : GoodIn wsX6_come wsX6_sums := goodIn_r _ [16, 17, 18, 19, 20, 21, 22, 23, 1, 3, 24, 25, 26, 8, 9, 10, 11, 12, 84, 85, 86, 87, 88, 89, 90, 91, 92, 93, 94, 95, 96, 97, 98, 99, 100, 101, 102, 103, 104, 105, 106, 107, 108, 109, 110, 111, 112, 113, 114, 115] rfl (by decide +kernel)
set_option maxRecDepth 20000 in
theorem gX6_come_X6_sums : GoodIn wsX6_come (wsV RX6 154 RX6 yX6_sums wsX6_sums) := goodIn_app (goodIn_of _ (by decide +kernel)) ggX6_come_X6_sums
set_option maxRecDepth 20000 in
theorem ggX6_come_X6_weight : GoodIn wsX6_come wsX6_weight := goodIn_r _ [30, 17, 31, 21, 20, 32, 33, 11, 34, 35, 36, 37, 38, 84, 85, 86, 87, 88, 89, 90, 91, 92, 93, 94, 95, 96, 97, 98, 99, 100, 101, 102, 103, 104, 105, 106, 107, 108, 109, 110, 111, 112, 113, 114, 115] rfl (by decide +kernel)
set_option maxRecDepth 20000 in
theorem gX6_come_X6_weight : GoodIn wsX6_come (wsV RX6 172 RX6 yX6_weight wsX6_weight) := goodIn_app (goodIn_of _ (by decide +kernel)) ggX6_come_X6_weight
set_option maxRecDepth 20000 in
theorem ggX6_come_X6_end : GoodIn wsX6_come wsX6_end := goodIn_r _ [42, 4, 17, 20, 19, 18, 21, 31, 43, 44, 45, 46, 47, 48, 2, 49, 6, 13, 14, 15, 11, 16, 22, 23, 1, 3, 24, 25, 26, 8, 9, 10, 12, 50, 51, 52, 53, 54, 55, 56, 57, 58, 59, 60, 61, 62, 63, 64, 65, 66, 67, 68, 69, 70, 71, 72, 73, 74, 75, 76, 77, 78, 79, 84, 85, 86, 87, 88, 89, 90, 91, 92, 93, 94, 95, 96, 97, 98, 99, 100, 101, 102, 103, 104, 105, 106, 107, 108, 109, 110, 111, 112, 113, 114, 115] rfl (by decide +kernel)
set_option maxRecDepth 20000 in
theorem gX6_come_X6_end : GoodIn wsX6_come (wsV RX6 179 RX6 yX6_end wsX6_end) := goodIn_app (goodIn_of _ (by decide +kernel)) ggX6_come_X6_end
set_option maxRecDepth 20000 in
theorem ggX6_come_X6_move : GoodIn wsX6_come wsX6_move := goodIn_r _ [75, 1, 3, 22, 23, 25, 24, 26, 59, 76, 77, 78, 11, 79, 84, 85, 86, 87, 88, 89, 90, 91, 92, 93, 94, 95, 96, 97, 98, 99, 100, 101, 102, 103, 104, 105, 106, 107, 108, 109, 110, 111, 112, 113, 114, 115] rfl (by decide +kernel)
set_option maxRecDepth 20000 in
theorem gX6_come_X6_move : GoodIn wsX6_come (wsV RX6 110 RX6 yX6_move wsX6_move) := goodIn_app (goodIn_of _ (by decide +kernel)) ggX6_come_X6_move
set_option maxRecDepth 20000 in
theorem ggX6_come_X6_take : GoodIn wsX6_come wsX6_take := goodIn_r _ [83, 49, 72, 73, 74, 11, 75, 1, 3, 22, 23, 25, 24, 26, 59, 76, 77, 78, 79, 84, 85, 86, 87, 88, 89, 90, 91, 92, 93, 94, 95, 96, 97, 98, 99, 100, 101, 102, 103, 104, 105, 106, 107, 108, 109, 110, 111, 112, 113, 114, 115] rfl (by decide +kernel)
set_option maxRecDepth 20000 in
theorem gX6_come_X6_take : GoodIn wsX6_come (wsV RX6 182 RX6 yX6_take wsX6_take) := goodIn_app (goodIn_of _ (by decide +kernel)) ggX6_come_X6_take
theorem dX6_come_0 : decode cX6_come 0 = .ok (.aload_n 0, 1) := by decide +kernel
theorem dX6_come_1 : decode cX6_come 1 = .ok (.getfield 7, 3) := by decide +kernel
theorem dX6_come_4 : decode cX6_come 4 = .ok (.iconst 0, 1) := by decide +kernel
theorem dX6_come_5 : decode cX6_come 5 = .ok (.iaload, 1) := by decide +kernel
theorem dX6_come_6 : decode cX6_come 6 = .ok (.iconst 5, 1) := by decide +kernel
theorem dX6_come_7 : decode cX6_come 7 = .ok (.if_icmp .ne 20, 3) := by decide +kernel
theorem dX6_come_10 : decode cX6_come 10 = .ok (.aload_n 0, 1) := by decide +kernel
theorem dX6_come_11 : decode cX6_come 11 = .ok (.sipush 4200, 3) := by decide +kernel
theorem dX6_come_14 : decode cX6_come 14 = .ok (.aload_n 0, 1) := by decide +kernel
theorem dX6_come_15 : decode cX6_come 15 = .ok (.getfield 92, 3) := by decide +kernel
theorem dX6_come_18 : decode cX6_come 18 = .ok (.iadd, 1) := by decide +kernel
theorem dX6_come_19 : decode cX6_come 19 = .ok (.iconst 1, 1) := by decide +kernel
theorem dX6_come_20 : decode cX6_come 20 = .ok (.isub, 1) := by decide +kernel
theorem dX6_come_21 : decode cX6_come 21 = .ok (.invokevirtual 127, 3) := by decide +kernel
theorem dX6_come_24 : decode cX6_come 24 = .ok (.goto 60, 3) := by decide +kernel
theorem dX6_come_27 : decode cX6_come 27 = .ok (.aload_n 0, 1) := by decide +kernel
theorem dX6_come_28 : decode cX6_come 28 = .ok (.getfield 7, 3) := by decide +kernel
theorem dX6_come_31 : decode cX6_come 31 = .ok (.iconst 0, 1) := by decide +kernel
theorem dX6_come_32 : decode cX6_come 32 = .ok (.iaload, 1) := by decide +kernel
theorem dX6_come_33 : decode cX6_come 33 = .ok (.bipush 6, 2) := by decide +kernel
theorem dX6_come_35 : decode cX6_come 35 = .ok (.if_icmp .ne 21, 3) := by decide +kernel
theorem dX6_come_38 : decode cX6_come 38 = .ok (.aload_n 0, 1) := by decide +kernel
theorem dX6_come_39 : decode cX6_come 39 = .ok (.getfield 7, 3) := by decide +kernel
theorem dX6_come_42 : decode cX6_come 42 = .ok (.iconst 1, 1) := by decide +kernel
theorem dX6_come_43 : decode cX6_come 43 = .ok (.iaload, 1) := by decide +kernel
theorem dX6_come_44 : decode cX6_come 44 = .ok (.iconst 5, 1) := by decide +kernel
theorem dX6_come_45 : decode cX6_come 45 = .ok (.if_icmp .ne 7, 3) := by decide +kernel
theorem dX6_come_48 : decode cX6_come 48 = .ok (.iconst 1, 1) := by decide +kernel
theorem dX6_come_49 : decode cX6_come 49 = .ok (.goto 35, 3) := by decide +kernel
theorem dX6_come_52 : decode cX6_come 52 = .ok (.iconst 0, 1) := by decide +kernel
theorem dX6_come_53 : decode cX6_come 53 = .ok (.goto 31, 3) := by decide +kernel
theorem dX6_come_56 : decode cX6_come 56 = .ok (.aload_n 0, 1) := by decide +kernel
theorem dX6_come_57 : decode cX6_come 57 = .ok (.getfield 7, 3) := by decide +kernel
theorem dX6_come_60 : decode cX6_come 60 = .ok (.iconst 0, 1) := by decide +kernel
theorem dX6_come_61 : decode cX6_come 61 = .ok (.iaload, 1) := by decide +kernel
theorem dX6_come_62 : decode cX6_come 62 = .ok (.bipush 7, 2) := by decide +kernel
theorem dX6_come_64 : decode cX6_come 64 = .ok (.if_icmp .ne 19, 3) := by decide +kernel
theorem dX6_come_67 : decode cX6_come 67 = .ok (.aload_n 0, 1) := by decide +kernel
theorem dX6_come_68 : decode cX6_come 68 = .ok (.getfield 13, 3) := by decide +kernel
theorem dX6_come_71 : decode cX6_come 71 = .ok (.iconst 0, 1) := by decide +kernel
theorem dX6_come_72 : decode cX6_come 72 = .ok (.iaload, 1) := by decide +kernel
theorem dX6_come_73 : decode cX6_come 73 = .ok (.sipush 10000, 3) := by decide +kernel
theorem dX6_come_76 : decode cX6_come 76 = .ok (.if_icmp .ge 7, 3) := by decide +kernel
theorem dX6_come_79 : decode cX6_come 79 = .ok (.iconst 1, 1) := by decide +kernel
theorem dX6_come_80 : decode cX6_come 80 = .ok (.goto 4, 3) := by decide +kernel
theorem dX6_come_83 : decode cX6_come 83 = .ok (.iconst 0, 1) := by decide +kernel
theorem dX6_come_84 : decode cX6_come 84 = .ok (.istore_n 1, 1) := by decide +kernel
theorem dX6_come_85 : decode cX6_come 85 = .ok (.iload_n 1, 1) := by decide +kernel
theorem dX6_come_86 : decode cX6_come 86 = .ok (.ifCond .eq 149, 3) := by decide +kernel
theorem dX6_come_89 : decode cX6_come 89 = .ok (.aload_n 0, 1) := by decide +kernel
theorem dX6_come_90 : decode cX6_come 90 = .ok (.sipush 4200, 3) := by decide +kernel
theorem dX6_come_93 : decode cX6_come 93 = .ok (.aload_n 0, 1) := by decide +kernel
theorem dX6_come_94 : decode cX6_come 94 = .ok (.getfield 92, 3) := by decide +kernel
theorem dX6_come_97 : decode cX6_come 97 = .ok (.aload_n 0, 1) := by decide +kernel
theorem dX6_come_98 : decode cX6_come 98 = .ok (.getfield 151, 3) := by decide +kernel
theorem dX6_come_101 : decode cX6_come 101 = .ok (.invokevirtual 154, 3) := by decide +kernel
theorem dX6_come_104 : decode cX6_come 104 = .ok (.aload_n 0, 1) := by decide +kernel
theorem dX6_come_105 : decode cX6_come 105 = .ok (.getfield 7, 3) := by decide +kernel
theorem dX6_come_108 : decode cX6_come 108 = .ok (.iconst 0, 1) := by decide +kernel
theorem dX6_come_109 : decode cX6_come 109 = .ok (.iaload, 1) := by decide +kernel
theorem dX6_come_110 : decode cX6_come 110 = .ok (.bipush 7, 2) := by decide +kernel
theorem dX6_come_112 : decode cX6_come 112 = .ok (.if_icmp .ne 12, 3) := by decide +kernel
theorem dX6_come_115 : decode cX6_come 115 = .ok (.aload_n 0, 1) := by decide +kernel
theorem dX6_come_116 : decode cX6_come 116 = .ok (.getfield 13, 3) := by decide +kernel
theorem dX6_come_119 : decode cX6_come 119 = .ok (.iconst 0, 1) := by decide +kernel
theorem dX6_come_120 : decode cX6_come 120 = .ok (.iaload, 1) := by decide +kernel
theorem dX6_come_121 : decode cX6_come 121 = .ok (.goto 4, 3) := by decide +kernel
theorem dX6_come_124 : decode cX6_come 124 = .ok (.iconst 0, 1) := by decide +kernel
theorem dX6_come_125 : decode cX6_come 125 = .ok (.istore_n 2, 1) := by decide +kernel
theorem dX6_come_126 : decode cX6_come 126 = .ok (.aload_n 0, 1) := by decide +kernel
theorem dX6_come_127 : decode cX6_come 127 = .ok (.invokevirtual 172, 3) := by decide +kernel
theorem dX6_come_130 : decode cX6_come 130 = .ok (.istore_n 3, 1) := by decide +kernel
theorem dX6_come_131 : decode cX6_come 131 = .ok (.iload_n 2, 1) := by decide +kernel
theorem dX6_come_132 : decode cX6_come 132 = .ok (.sipush (-10000), 3) := by decide +kernel
theorem dX6_come_135 : decode cX6_come 135 = .ok (.if_icmp .gt 7, 3) := by decide +kernel
theorem dX6_come_138 : decode cX6_come 138 = .ok (.iload_n 2, 1) := by decide +kernel
theorem dX6_come_139 : decode cX6_come 139 = .ok (.goto 18, 3) := by decide +kernel
theorem dX6_come_142 : decode cX6_come 142 = .ok (.iload_n 3, 1) := by decide +kernel
theorem dX6_come_143 : decode cX6_come 143 = .ok (.sipush 10000, 3) := by decide +kernel
theorem dX6_come_146 : decode cX6_come 146 = .ok (.if_icmp .ge 9, 3) := by decide +kernel
theorem dX6_come_149 : decode cX6_come 149 = .ok (.iload_n 3, 1) := by decide +kernel
theorem dX6_come_150 : decode cX6_come 150 = .ok (.iload_n 2, 1) := by decide +kernel
theorem dX6_come_151 : decode cX6_come 151 = .ok (.iadd, 1) := by decide +kernel
theorem dX6_come_152 : decode cX6_come 152 = .ok (.goto 5, 3) := by decide +kernel
theorem dX6_come_155 : decode cX6_come 155 = .ok (.ldc 175, 2) := by decide +kernel
theorem dX6_come_157 : decode cX6_come 157 = .ok (.istore 4, 2) := by decide +kernel
theorem dX6_come_159 : decode cX6_come 159 = .ok (.iload_n 3, 1) := by decide +kernel
theorem dX6_come_160 : decode cX6_come 160 = .ok (.ifCond .lt 33, 3) := by decide +kernel
theorem dX6_come_163 : decode cX6_come 163 = .ok (.aload_n 0, 1) := by decide +kernel
theorem dX6_come_164 : decode cX6_come 164 = .ok (.getfield 47, 3) := by decide +kernel
theorem dX6_come_167 : decode cX6_come 167 = .ok (.ifCond .lt 12, 3) := by decide +kernel
theorem dX6_come_170 : decode cX6_come 170 = .ok (.iload 4, 2) := by decide +kernel
theorem dX6_come_172 : decode cX6_come 172 = .ok (.aload_n 0, 1) := by decide +kernel
theorem dX6_come_173 : decode cX6_come 173 = .ok (.getfield 176, 3) := by decide +kernel
theorem dX6_come_176 : decode cX6_come 176 = .ok (.if_icmp .gt 17, 3) := by decide +kernel
theorem dX6_come_179 : decode cX6_come 179 = .ok (.aload_n 0, 1) := by decide +kernel
theorem dX6_come_180 : decode cX6_come 180 = .ok (.aload_n 0, 1) := by decide +kernel
theorem dX6_come_181 : decode cX6_come 181 = .ok (.getfield 92, 3) := by decide +kernel
theorem dX6_come_184 : decode cX6_come 184 = .ok (.putfield 47, 3) := by decide +kernel
theorem dX6_come_187 : decode cX6_come 187 = .ok (.aload_n 0, 1) := by decide +kernel
theorem dX6_come_188 : decode cX6_come 188 = .ok (.iload 4, 2) := by decide +kernel
theorem dX6_come_190 : decode cX6_come 190 = .ok (.putfield 176, 3) := by decide +kernel
theorem dX6_come_193 : decode cX6_come 193 = .ok (.iload_n 3, 1) := by decide +kernel
theorem dX6_come_194 : decode cX6_come 194 = .ok (.ifCond .lt 10, 3) := by decide +kernel
theorem dX6_come_197 : decode cX6_come 197 = .ok (.iload_n 2, 1) := by decide +kernel
theorem dX6_come_198 : decode cX6_come 198 = .ok (.sipush (-10000), 3) := by decide +kernel
theorem dX6_come_201 : decode cX6_come 201 = .ok (.if_icmp .gt 34, 3) := by decide +kernel
theorem dX6_come_204 : decode cX6_come 204 = .ok (.aload_n 0, 1) := by decide +kernel
theorem dX6_come_205 : decode cX6_come 205 = .ok (.aload_n 0, 1) := by decide +kernel
theorem dX6_come_206 : decode cX6_come 206 = .ok (.getfield 47, 3) := by decide +kernel
theorem dX6_come_209 : decode cX6_come 209 = .ok (.ifCond .ge 10, 3) := by decide +kernel
theorem dX6_come_212 : decode cX6_come 212 = .ok (.aload_n 0, 1) := by decide +kernel
theorem dX6_come_213 : decode cX6_come 213 = .ok (.getfield 92, 3) := by decide +kernel
theorem dX6_come_216 : decode cX6_come 216 = .ok (.goto 7, 3) := by decide +kernel
theorem dX6_come_219 : decode cX6_come 219 = .ok (.aload_n 0, 1) := by decide +kernel
theorem dX6_come_220 : decode cX6_come 220 = .ok (.getfield 47, 3) := by decide +kernel
theorem dX6_come_223 : decode cX6_come 223 = .ok (.invokevirtual 179, 3) := by decide +kernel
theorem dX6_come_226 : decode cX6_come 226 = .ok (.ifCond .eq 7, 3) := by decide +kernel
theorem dX6_come_229 : decode cX6_come 229 = .ok (.iconst 1, 1) := by decide +kernel
theorem dX6_come_230 : decode cX6_come 230 = .ok (.goto 4, 3) := by decide +kernel
theorem dX6_come_233 : decode cX6_come 233 = .ok (.iconst 2, 1) := by decide +kernel
theorem dX6_come_234 : decode cX6_come 234 = .ok (.ireturn, 1) := by decide +kernel
theorem dX6_come_235 : decode cX6_come 235 = .ok (.aload_n 0, 1) := by decide +kernel
theorem dX6_come_236 : decode cX6_come 236 = .ok (.iconst 0, 1) := by decide +kernel
theorem dX6_come_237 : decode cX6_come 237 = .ok (.sipush 4200, 3) := by decide +kernel
theorem dX6_come_240 : decode cX6_come 240 = .ok (.aload_n 0, 1) := by decide +kernel
theorem dX6_come_241 : decode cX6_come 241 = .ok (.getfield 92, 3) := by decide +kernel
theorem dX6_come_244 : decode cX6_come 244 = .ok (.iadd, 1) := by decide +kernel
theorem dX6_come_245 : decode cX6_come 245 = .ok (.invokevirtual 110, 3) := by decide +kernel
theorem dX6_come_248 : decode cX6_come 248 = .ok (.aload_n 0, 1) := by decide +kernel
theorem dX6_come_249 : decode cX6_come 249 = .ok (.dup, 1) := by decide +kernel
theorem dX6_come_250 : decode cX6_come 250 = .ok (.getfield 92, 3) := by decide +kernel
theorem dX6_come_253 : decode cX6_come 253 = .ok (.iconst 1, 1) := by decide +kernel
theorem dX6_come_254 : decode cX6_come 254 = .ok (.iadd, 1) := by decide +kernel
theorem dX6_come_255 : decode cX6_come 255 = .ok (.putfield 92, 3) := by decide +kernel
theorem dX6_come_258 : decode cX6_come 258 = .ok (.aload_n 0, 1) := by decide +kernel
theorem dX6_come_259 : decode cX6_come 259 = .ok (.iconst 1, 1) := by decide +kernel
theorem dX6_come_260 : decode cX6_come 260 = .ok (.invokevirtual 182, 3) := by decide +kernel
theorem dX6_come_263 : decode cX6_come 263 = .ok (.iconst 0, 1) := by decide +kernel
theorem dX6_come_264 : decode cX6_come 264 = .ok (.ireturn, 1) := by decide +kernel
set_option maxRecDepth 20000 in
theorem ggX6_build_X6_isSolid : GoodIn wsX6_build wsX6_isSolid := goodIn_r _ [12, 4, 103, 104, 105, 106, 107, 108, 109, 110, 111, 112, 113, 114, 115, 116, 117, 118, 119, 120, 121, 122, 123, 124, 125, 126, 127, 128, 129, 130, 131, 132, 133, 134] rfl (by decide +kernel)
set_option maxRecDepth 20000 in
theorem gX6_build_X6_isSolid : GoodIn wsX6_build (wsV RX6 127 RX6 yX6_isSolid wsX6_isSolid) := goodIn_app (goodIn_of _ (by decide +kernel)) ggX6_build_X6_isSolid
set_option maxRecDepth 20000 in
theorem ggX6_build_X6_take : GoodIn wsX6_build wsX6_take := goodIn_r _ [16, 3, 17, 18, 19, 11, 20, 4, 21, 22, 23, 24, 25, 26, 27, 28, 29, 30, 31, 103, 104, 105, 106, 107, 108, 109, 110, 111, 112, 113, 114, 115, 116, 117, 118, 119, 120, 121, 122, 123, 124, 125, 126, 127, 128, 129, 130, 131, 132, 133, 134] rfl (by decide +kernel)
set_option maxRecDepth 20000 in
theorem gX6_build_X6_take : GoodIn wsX6_build (wsV RX6 182 RX6 yX6_take wsX6_take) := goodIn_app (goodIn_of _ (by decide +kernel)) ggX6_build_X6_take
set_option maxRecDepth 20000 in
theorem ggX6_build_X6_begin : GoodIn wsX6_build wsX6_begin := goodIn_r _ [35, 36, 37, 38, 39, 7, 40, 22, 41, 42, 43, 5, 28, 29, 30, 11, 31, 4, 21, 23, 24, 25, 26, 27, 103, 104, 105, 106, 107, 108, 109, 110, 111, 112, 113, 114, 115, 116, 117, 118, 119, 120, 121, 122, 123, 124, 125, 126, 127, 128, 129, 130, 131, 132, 133, 134] rfl (by decide +kernel)
set_option maxRecDepth 20000 in
theorem gX6_build_X6_begin : GoodIn wsX6_build (wsV RX6 186 RX6 yX6_begin wsX6_begin) := goodIn_app (goodIn_of _ (by decide +kernel)) ggX6_build_X6_begin
set_option maxRecDepth 20000 in
theorem ggX6_build_X6_come : GoodIn wsX6_build wsX6_come := goodIn_r _ [47, 4, 5, 21, 39, 48, 7, 49, 8, 9, 10, 11, 12, 50, 51, 52, 53, 54, 55, 56, 57, 58, 22, 23, 25, 24, 26, 59, 60, 61, 62, 37, 63, 64, 65, 66, 67, 68, 69, 70, 71, 72, 73, 6, 74, 75, 76, 77, 2, 3, 78, 79, 80, 81, 82, 83, 84, 85, 86, 27, 87, 88, 89, 90, 91, 92, 93, 94, 95, 96, 97, 98, 17, 18, 19, 20, 28, 29, 30, 31, 13, 14, 15, 16, 103, 104, 105, 106, 107, 108, 109, 110, 111, 112, 113, 114, 115, 116, 117, 118, 119, 120, 121, 122, 123, 124, 125, 126, 127, 128, 129, 130, 131, 132, 133, 134] rfl (by decide +kernel)
set_option maxRecDepth 20000 in
theorem gX6_build_X6_come : GoodIn wsX6_build (wsV RX6 189 RX6 yX6_come wsX6_come) := goodIn_app (goodIn_of _ (by decide +kernel)) ggX6_build_X6_come
set_option maxRecDepth 20000 in
theorem ggX6_build_X6_fails : GoodIn wsX6_build wsX6_fails := goodIn_r _ [102, 1, 103, 104, 105, 106, 107, 108, 109, 110, 111, 112, 113, 114, 115, 116, 117, 118, 119, 120, 121, 122, 123, 124, 125, 126, 127, 128, 129, 130, 131, 132, 133, 134] rfl (by decide +kernel)
set_option maxRecDepth 20000 in
theorem gX6_build_X6_fails : GoodIn wsX6_build (wsV RX6 192 RX6 yX6_fails wsX6_fails) := goodIn_app (goodIn_of _ (by decide +kernel)) ggX6_build_X6_fails
theorem dX6_build_0 : decode cX6_build 0 = .ok (.aload_n 0, 1) := by decide +kernel
theorem dX6_build_1 : decode cX6_build 1 = .ok (.iconst 0, 1) := by decide +kernel
theorem dX6_build_2 : decode cX6_build 2 = .ok (.putfield 54, 3) := by decide +kernel
theorem dX6_build_5 : decode cX6_build 5 = .ok (.aload_n 0, 1) := by decide +kernel
theorem dX6_build_6 : decode cX6_build 6 = .ok (.getfield 169, 3) := by decide +kernel
theorem dX6_build_9 : decode cX6_build 9 = .ok (.istore_n 1, 1) := by decide +kernel
theorem dX6_build_10 : decode cX6_build 10 = .ok (.aload_n 0, 1) := by decide +kernel
theorem dX6_build_11 : decode cX6_build 11 = .ok (.getfield 89, 3) := by decide +kernel
theorem dX6_build_14 : decode cX6_build 14 = .ok (.ifCond .le 89, 3) := by decide +kernel
theorem dX6_build_17 : decode cX6_build 17 = .ok (.aload_n 0, 1) := by decide +kernel
theorem dX6_build_18 : decode cX6_build 18 = .ok (.getfield 89, 3) := by decide +kernel
theorem dX6_build_21 : decode cX6_build 21 = .ok (.iconst 1, 1) := by decide +kernel
theorem dX6_build_22 : decode cX6_build 22 = .ok (.if_icmp .ne 14, 3) := by decide +kernel
theorem dX6_build_25 : decode cX6_build 25 = .ok (.aload_n 0, 1) := by decide +kernel
theorem dX6_build_26 : decode cX6_build 26 = .ok (.getfield 7, 3) := by decide +kernel
theorem dX6_build_29 : decode cX6_build 29 = .ok (.iconst 0, 1) := by decide +kernel
theorem dX6_build_30 : decode cX6_build 30 = .ok (.iaload, 1) := by decide +kernel
theorem dX6_build_31 : decode cX6_build 31 = .ok (.bipush 6, 2) := by decide +kernel
theorem dX6_build_33 : decode cX6_build 33 = .ok (.if_icmp .eq 70, 3) := by decide +kernel
theorem dX6_build_36 : decode cX6_build 36 = .ok (.aload_n 0, 1) := by decide +kernel
theorem dX6_build_37 : decode cX6_build 37 = .ok (.getfield 92, 3) := by decide +kernel
theorem dX6_build_40 : decode cX6_build 40 = .ok (.ifCond .ne 19, 3) := by decide +kernel
theorem dX6_build_43 : decode cX6_build 43 = .ok (.aload_n 0, 1) := by decide +kernel
theorem dX6_build_44 : decode cX6_build 44 = .ok (.iconst 0, 1) := by decide +kernel
theorem dX6_build_45 : decode cX6_build 45 = .ok (.invokevirtual 127, 3) := by decide +kernel
theorem dX6_build_48 : decode cX6_build 48 = .ok (.ifCond .ne 11, 3) := by decide +kernel
theorem dX6_build_51 : decode cX6_build 51 = .ok (.aload_n 0, 1) := by decide +kernel
theorem dX6_build_52 : decode cX6_build 52 = .ok (.iconst 1, 1) := by decide +kernel
theorem dX6_build_53 : decode cX6_build 53 = .ok (.invokevirtual 182, 3) := by decide +kernel
theorem dX6_build_56 : decode cX6_build 56 = .ok (.goto (-46), 3) := by decide +kernel
theorem dX6_build_59 : decode cX6_build 59 = .ok (.aload_n 0, 1) := by decide +kernel
theorem dX6_build_60 : decode cX6_build 60 = .ok (.getfield 92, 3) := by decide +kernel
theorem dX6_build_63 : decode cX6_build 63 = .ok (.ifCond .ne 7, 3) := by decide +kernel
theorem dX6_build_66 : decode cX6_build 66 = .ok (.aload_n 0, 1) := by decide +kernel
theorem dX6_build_67 : decode cX6_build 67 = .ok (.invokevirtual 186, 3) := by decide +kernel
theorem dX6_build_70 : decode cX6_build 70 = .ok (.aload_n 0, 1) := by decide +kernel
theorem dX6_build_71 : decode cX6_build 71 = .ok (.invokevirtual 189, 3) := by decide +kernel
theorem dX6_build_74 : decode cX6_build 74 = .ok (.iconst 2, 1) := by decide +kernel
theorem dX6_build_75 : decode cX6_build 75 = .ok (.if_icmp .ne (-65), 3) := by decide +kernel
theorem dX6_build_78 : decode cX6_build 78 = .ok (.aload_n 0, 1) := by decide +kernel
theorem dX6_build_79 : decode cX6_build 79 = .ok (.iconst 0, 1) := by decide +kernel
theorem dX6_build_80 : decode cX6_build 80 = .ok (.putfield 89, 3) := by decide +kernel
theorem dX6_build_83 : decode cX6_build 83 = .ok (.aload_n 0, 1) := by decide +kernel
theorem dX6_build_84 : decode cX6_build 84 = .ok (.iconst 0, 1) := by decide +kernel
theorem dX6_build_85 : decode cX6_build 85 = .ok (.putfield 92, 3) := by decide +kernel
theorem dX6_build_88 : decode cX6_build 88 = .ok (.aload_n 0, 1) := by decide +kernel
theorem dX6_build_89 : decode cX6_build 89 = .ok (.iconst 0, 1) := by decide +kernel
theorem dX6_build_90 : decode cX6_build 90 = .ok (.putfield 95, 3) := by decide +kernel
theorem dX6_build_93 : decode cX6_build 93 = .ok (.aload_n 0, 1) := by decide +kernel
theorem dX6_build_94 : decode cX6_build 94 = .ok (.iconst (-1), 1) := by decide +kernel
theorem dX6_build_95 : decode cX6_build 95 = .ok (.putfield 47, 3) := by decide +kernel
theorem dX6_build_98 : decode cX6_build 98 = .ok (.aload_n 0, 1) := by decide +kernel
theorem dX6_build_99 : decode cX6_build 99 = .ok (.invokevirtual 192, 3) := by decide +kernel
theorem dX6_build_102 : decode cX6_build 102 = .ok (.ireturn, 1) := by decide +kernel
theorem dX6_build_103 : decode cX6_build 103 = .ok (.aload_n 0, 1) := by decide +kernel
theorem dX6_build_104 : decode cX6_build 104 = .ok (.getfield 169, 3) := by decide +kernel
theorem dX6_build_107 : decode cX6_build 107 = .ok (.iload_n 1, 1) := by decide +kernel
theorem dX6_build_108 : decode cX6_build 108 = .ok (.isub, 1) := by decide +kernel
theorem dX6_build_109 : decode cX6_build 109 = .ok (.ireturn, 1) := by decide +kernel
set_option maxRecDepth 20000 in
theorem ggX6_about_X6_fails : GoodIn wsX6_about wsX6_fails := goodIn_r _ [11, 2, 12, 13, 14, 15, 16, 17, 18, 19, 20, 21, 22, 23, 24, 25, 26, 27, 28, 29, 30, 31, 32, 33, 34, 35, 36, 37, 38, 39, 40, 41, 42, 43] rfl (by decide +kernel)
set_option maxRecDepth 20000 in
theorem gX6_about_X6_fails : GoodIn wsX6_about (wsV RX6 192 RX6 yX6_fails wsX6_fails) := goodIn_app (goodIn_of _ (by decide +kernel)) ggX6_about_X6_fails
theorem dX6_about_0 : decode cX6_about 0 = .ok (.iload_n 1, 1) := by decide +kernel
theorem dX6_about_1 : decode cX6_about 1 = .ok (.ifCond .lt 20, 3) := by decide +kernel
theorem dX6_about_4 : decode cX6_about 4 = .ok (.iload_n 1, 1) := by decide +kernel
theorem dX6_about_5 : decode cX6_about 5 = .ok (.aload_n 0, 1) := by decide +kernel
theorem dX6_about_6 : decode cX6_about 6 = .ok (.getfield 95, 3) := by decide +kernel
theorem dX6_about_9 : decode cX6_about 9 = .ok (.if_icmp .ge 12, 3) := by decide +kernel
theorem dX6_about_12 : decode cX6_about 12 = .ok (.iload_n 2, 1) := by decide +kernel
theorem dX6_about_13 : decode cX6_about 13 = .ok (.ifCond .lt 8, 3) := by decide +kernel
theorem dX6_about_16 : decode cX6_about 16 = .ok (.iload_n 2, 1) := by decide +kernel
theorem dX6_about_17 : decode cX6_about 17 = .ok (.iconst 3, 1) := by decide +kernel
theorem dX6_about_18 : decode cX6_about 18 = .ok (.if_icmp .le 8, 3) := by decide +kernel
theorem dX6_about_21 : decode cX6_about 21 = .ok (.aload_n 0, 1) := by decide +kernel
theorem dX6_about_22 : decode cX6_about 22 = .ok (.invokevirtual 192, 3) := by decide +kernel
theorem dX6_about_25 : decode cX6_about 25 = .ok (.ireturn, 1) := by decide +kernel
theorem dX6_about_26 : decode cX6_about 26 = .ok (.aload_n 0, 1) := by decide +kernel
theorem dX6_about_27 : decode cX6_about 27 = .ok (.iconst 0, 1) := by decide +kernel
theorem dX6_about_28 : decode cX6_about 28 = .ok (.putfield 54, 3) := by decide +kernel
theorem dX6_about_31 : decode cX6_about 31 = .ok (.aload_n 0, 1) := by decide +kernel
theorem dX6_about_32 : decode cX6_about 32 = .ok (.getfield 95, 3) := by decide +kernel
theorem dX6_about_35 : decode cX6_about 35 = .ok (.iconst 1, 1) := by decide +kernel
theorem dX6_about_36 : decode cX6_about 36 = .ok (.isub, 1) := by decide +kernel
theorem dX6_about_37 : decode cX6_about 37 = .ok (.iload_n 1, 1) := by decide +kernel
theorem dX6_about_38 : decode cX6_about 38 = .ok (.isub, 1) := by decide +kernel
theorem dX6_about_39 : decode cX6_about 39 = .ok (.istore_n 3, 1) := by decide +kernel
theorem dX6_about_40 : decode cX6_about 40 = .ok (.iload_n 2, 1) := by decide +kernel
theorem dX6_about_41 : decode cX6_about 41 = .ok (.ifCond .ne 12, 3) := by decide +kernel
theorem dX6_about_44 : decode cX6_about 44 = .ok (.aload_n 0, 1) := by decide +kernel
theorem dX6_about_45 : decode cX6_about 45 = .ok (.getfield 38, 3) := by decide +kernel
theorem dX6_about_48 : decode cX6_about 48 = .ok (.iload_n 3, 1) := by decide +kernel
theorem dX6_about_49 : decode cX6_about 49 = .ok (.iaload, 1) := by decide +kernel
theorem dX6_about_50 : decode cX6_about 50 = .ok (.goto 37, 3) := by decide +kernel
theorem dX6_about_53 : decode cX6_about 53 = .ok (.iload_n 2, 1) := by decide +kernel
theorem dX6_about_54 : decode cX6_about 54 = .ok (.iconst 1, 1) := by decide +kernel
theorem dX6_about_55 : decode cX6_about 55 = .ok (.if_icmp .ne 12, 3) := by decide +kernel
theorem dX6_about_58 : decode cX6_about 58 = .ok (.aload_n 0, 1) := by decide +kernel
theorem dX6_about_59 : decode cX6_about 59 = .ok (.getfield 41, 3) := by decide +kernel
theorem dX6_about_62 : decode cX6_about 62 = .ok (.iload_n 3, 1) := by decide +kernel
theorem dX6_about_63 : decode cX6_about 63 = .ok (.iaload, 1) := by decide +kernel
theorem dX6_about_64 : decode cX6_about 64 = .ok (.goto 23, 3) := by decide +kernel
theorem dX6_about_67 : decode cX6_about 67 = .ok (.iload_n 2, 1) := by decide +kernel
theorem dX6_about_68 : decode cX6_about 68 = .ok (.iconst 2, 1) := by decide +kernel
theorem dX6_about_69 : decode cX6_about 69 = .ok (.if_icmp .ne 12, 3) := by decide +kernel
theorem dX6_about_72 : decode cX6_about 72 = .ok (.aload_n 0, 1) := by decide +kernel
theorem dX6_about_73 : decode cX6_about 73 = .ok (.getfield 44, 3) := by decide +kernel
theorem dX6_about_76 : decode cX6_about 76 = .ok (.iload_n 3, 1) := by decide +kernel
theorem dX6_about_77 : decode cX6_about 77 = .ok (.iaload, 1) := by decide +kernel
theorem dX6_about_78 : decode cX6_about 78 = .ok (.goto 9, 3) := by decide +kernel
theorem dX6_about_81 : decode cX6_about 81 = .ok (.aload_n 0, 1) := by decide +kernel
theorem dX6_about_82 : decode cX6_about 82 = .ok (.getfield 35, 3) := by decide +kernel
theorem dX6_about_85 : decode cX6_about 85 = .ok (.iload_n 3, 1) := by decide +kernel
theorem dX6_about_86 : decode cX6_about 86 = .ok (.iaload, 1) := by decide +kernel
theorem dX6_about_87 : decode cX6_about 87 = .ok (.ireturn, 1) := by decide +kernel
set_option maxRecDepth 20000 in
theorem ggX6_item_X6_fails : GoodIn wsX6_item wsX6_fails := goodIn_r _ [15, 3, 16, 17, 18, 19, 20, 21, 22, 23, 24, 25, 26, 27, 28, 29, 30, 31, 32, 33, 34, 35, 36, 37, 38, 39, 40, 41, 42, 43, 44, 45, 46, 47] rfl (by decide +kernel)
set_option maxRecDepth 20000 in
theorem gX6_item_X6_fails : GoodIn wsX6_item (wsV RX6 192 RX6 yX6_fails wsX6_fails) := goodIn_app (goodIn_of _ (by decide +kernel)) ggX6_item_X6_fails
theorem dX6_item_0 : decode cX6_item 0 = .ok (.iload_n 1, 1) := by decide +kernel
theorem dX6_item_1 : decode cX6_item 1 = .ok (.ifCond .lt 20, 3) := by decide +kernel
theorem dX6_item_4 : decode cX6_item 4 = .ok (.iload_n 1, 1) := by decide +kernel
theorem dX6_item_5 : decode cX6_item 5 = .ok (.aload_n 0, 1) := by decide +kernel
theorem dX6_item_6 : decode cX6_item 6 = .ok (.getfield 95, 3) := by decide +kernel
theorem dX6_item_9 : decode cX6_item 9 = .ok (.if_icmp .ge 12, 3) := by decide +kernel
theorem dX6_item_12 : decode cX6_item 12 = .ok (.iload_n 3, 1) := by decide +kernel
theorem dX6_item_13 : decode cX6_item 13 = .ok (.ifCond .lt 8, 3) := by decide +kernel
theorem dX6_item_16 : decode cX6_item 16 = .ok (.iload_n 3, 1) := by decide +kernel
theorem dX6_item_17 : decode cX6_item 17 = .ok (.iconst 3, 1) := by decide +kernel
theorem dX6_item_18 : decode cX6_item 18 = .ok (.if_icmp .le 8, 3) := by decide +kernel
theorem dX6_item_21 : decode cX6_item 21 = .ok (.aload_n 0, 1) := by decide +kernel
theorem dX6_item_22 : decode cX6_item 22 = .ok (.invokevirtual 192, 3) := by decide +kernel
theorem dX6_item_25 : decode cX6_item 25 = .ok (.ireturn, 1) := by decide +kernel
theorem dX6_item_26 : decode cX6_item 26 = .ok (.aload_n 0, 1) := by decide +kernel
theorem dX6_item_27 : decode cX6_item 27 = .ok (.getfield 95, 3) := by decide +kernel
theorem dX6_item_30 : decode cX6_item 30 = .ok (.iconst 1, 1) := by decide +kernel
theorem dX6_item_31 : decode cX6_item 31 = .ok (.isub, 1) := by decide +kernel
theorem dX6_item_32 : decode cX6_item 32 = .ok (.iload_n 1, 1) := by decide +kernel
theorem dX6_item_33 : decode cX6_item 33 = .ok (.isub, 1) := by decide +kernel
theorem dX6_item_34 : decode cX6_item 34 = .ok (.istore 4, 2) := by decide +kernel
theorem dX6_item_36 : decode cX6_item 36 = .ok (.iload_n 2, 1) := by decide +kernel
theorem dX6_item_37 : decode cX6_item 37 = .ok (.ifCond .lt 14, 3) := by decide +kernel
theorem dX6_item_40 : decode cX6_item 40 = .ok (.iload_n 2, 1) := by decide +kernel
theorem dX6_item_41 : decode cX6_item 41 = .ok (.aload_n 0, 1) := by decide +kernel
theorem dX6_item_42 : decode cX6_item 42 = .ok (.getfield 35, 3) := by decide +kernel
theorem dX6_item_45 : decode cX6_item 45 = .ok (.iload 4, 2) := by decide +kernel
theorem dX6_item_47 : decode cX6_item 47 = .ok (.iaload, 1) := by decide +kernel
theorem dX6_item_48 : decode cX6_item 48 = .ok (.if_icmp .lt 8, 3) := by decide +kernel
theorem dX6_item_51 : decode cX6_item 51 = .ok (.aload_n 0, 1) := by decide +kernel
theorem dX6_item_52 : decode cX6_item 52 = .ok (.invokevirtual 192, 3) := by decide +kernel
theorem dX6_item_55 : decode cX6_item 55 = .ok (.ireturn, 1) := by decide +kernel
theorem dX6_item_56 : decode cX6_item 56 = .ok (.aload_n 0, 1) := by decide +kernel
theorem dX6_item_57 : decode cX6_item 57 = .ok (.iconst 0, 1) := by decide +kernel
theorem dX6_item_58 : decode cX6_item 58 = .ok (.putfield 54, 3) := by decide +kernel
theorem dX6_item_61 : decode cX6_item 61 = .ok (.sipush 8400, 3) := by decide +kernel
theorem dX6_item_64 : decode cX6_item 64 = .ok (.iload_n 2, 1) := by decide +kernel
theorem dX6_item_65 : decode cX6_item 65 = .ok (.iadd, 1) := by decide +kernel
theorem dX6_item_66 : decode cX6_item 66 = .ok (.istore 5, 2) := by decide +kernel
theorem dX6_item_68 : decode cX6_item 68 = .ok (.iconst 0, 1) := by decide +kernel
theorem dX6_item_69 : decode cX6_item 69 = .ok (.istore 6, 2) := by decide +kernel
theorem dX6_item_71 : decode cX6_item 71 = .ok (.iload 6, 2) := by decide +kernel
theorem dX6_item_73 : decode cX6_item 73 = .ok (.iload 4, 2) := by decide +kernel
theorem dX6_item_75 : decode cX6_item 75 = .ok (.if_icmp .ge 21, 3) := by decide +kernel
theorem dX6_item_78 : decode cX6_item 78 = .ok (.iload 5, 2) := by decide +kernel
theorem dX6_item_80 : decode cX6_item 80 = .ok (.aload_n 0, 1) := by decide +kernel
theorem dX6_item_81 : decode cX6_item 81 = .ok (.getfield 35, 3) := by decide +kernel
theorem dX6_item_84 : decode cX6_item 84 = .ok (.iload 6, 2) := by decide +kernel
theorem dX6_item_86 : decode cX6_item 86 = .ok (.iaload, 1) := by decide +kernel
theorem dX6_item_87 : decode cX6_item 87 = .ok (.iadd, 1) := by decide +kernel
theorem dX6_item_88 : decode cX6_item 88 = .ok (.istore 5, 2) := by decide +kernel
theorem dX6_item_90 : decode cX6_item 90 = .ok (.iinc 6 1, 3) := by decide +kernel
theorem dX6_item_93 : decode cX6_item 93 = .ok (.goto (-22), 3) := by decide +kernel
theorem dX6_item_96 : decode cX6_item 96 = .ok (.aload_n 0, 1) := by decide +kernel
theorem dX6_item_97 : decode cX6_item 97 = .ok (.getfield 13, 3) := by decide +kernel
theorem dX6_item_100 : decode cX6_item 100 = .ok (.iload 5, 2) := by decide +kernel
theorem dX6_item_102 : decode cX6_item 102 = .ok (.iaload, 1) := by decide +kernel
theorem dX6_item_103 : decode cX6_item 103 = .ok (.i2l, 1) := by decide +kernel
theorem dX6_item_104 : decode cX6_item 104 = .ok (.aload_n 0, 1) := by decide +kernel
theorem dX6_item_105 : decode cX6_item 105 = .ok (.getfield 31, 3) := by decide +kernel
theorem dX6_item_108 : decode cX6_item 108 = .ok (.iload 5, 2) := by decide +kernel
theorem dX6_item_110 : decode cX6_item 110 = .ok (.laload, 1) := by decide +kernel
theorem dX6_item_111 : decode cX6_item 111 = .ok (.ladd, 1) := by decide +kernel
theorem dX6_item_112 : decode cX6_item 112 = .ok (.lstore 6, 2) := by decide +kernel
theorem dX6_item_114 : decode cX6_item 114 = .ok (.iload_n 3, 1) := by decide +kernel
theorem dX6_item_115 : decode cX6_item 115 = .ok (.ifCond .ne 13, 3) := by decide +kernel
theorem dX6_item_118 : decode cX6_item 118 = .ok (.aload_n 0, 1) := by decide +kernel
theorem dX6_item_119 : decode cX6_item 119 = .ok (.getfield 7, 3) := by decide +kernel
theorem dX6_item_122 : decode cX6_item 122 = .ok (.iload 5, 2) := by decide +kernel
theorem dX6_item_124 : decode cX6_item 124 = .ok (.iaload, 1) := by decide +kernel
theorem dX6_item_125 : decode cX6_item 125 = .ok (.goto 77, 3) := by decide +kernel
theorem dX6_item_128 : decode cX6_item 128 = .ok (.iload_n 3, 1) := by decide +kernel
theorem dX6_item_129 : decode cX6_item 129 = .ok (.iconst 1, 1) := by decide +kernel
theorem dX6_item_130 : decode cX6_item 130 = .ok (.if_icmp .ne 50, 3) := by decide +kernel
theorem dX6_item_133 : decode cX6_item 133 = .ok (.lload 6, 2) := by decide +kernel
theorem dX6_item_135 : decode cX6_item 135 = .ok (.ldc2_w 195, 3) := by decide +kernel
theorem dX6_item_138 : decode cX6_item 138 = .ok (.lcmp, 1) := by decide +kernel
theorem dX6_item_139 : decode cX6_item 139 = .ok (.ifCond .le 9, 3) := by decide +kernel
theorem dX6_item_142 : decode cX6_item 142 = .ok (.ldc2_w 195, 3) := by decide +kernel
theorem dX6_item_145 : decode cX6_item 145 = .ok (.goto 31, 3) := by decide +kernel
theorem dX6_item_148 : decode cX6_item 148 = .ok (.aload_n 0, 1) := by decide +kernel
theorem dX6_item_149 : decode cX6_item 149 = .ok (.getfield 7, 3) := by decide +kernel
theorem dX6_item_152 : decode cX6_item 152 = .ok (.iload 5, 2) := by decide +kernel
theorem dX6_item_154 : decode cX6_item 154 = .ok (.iaload, 1) := by decide +kernel
theorem dX6_item_155 : decode cX6_item 155 = .ok (.iconst 5, 1) := by decide +kernel
theorem dX6_item_156 : decode cX6_item 156 = .ok (.if_icmp .ne 18, 3) := by decide +kernel
theorem dX6_item_159 : decode cX6_item 159 = .ok (.lload 6, 2) := by decide +kernel
theorem dX6_item_161 : decode cX6_item 161 = .ok (.ldc2_w 197, 3) := by decide +kernel
theorem dX6_item_164 : decode cX6_item 164 = .ok (.lcmp, 1) := by decide +kernel
theorem dX6_item_165 : decode cX6_item 165 = .ok (.ifCond .ge 9, 3) := by decide +kernel
theorem dX6_item_168 : decode cX6_item 168 = .ok (.ldc2_w 197, 3) := by decide +kernel
theorem dX6_item_171 : decode cX6_item 171 = .ok (.goto 5, 3) := by decide +kernel
theorem dX6_item_174 : decode cX6_item 174 = .ok (.lload 6, 2) := by decide +kernel
theorem dX6_item_176 : decode cX6_item 176 = .ok (.l2i, 1) := by decide +kernel
theorem dX6_item_177 : decode cX6_item 177 = .ok (.goto 25, 3) := by decide +kernel
theorem dX6_item_180 : decode cX6_item 180 = .ok (.iload_n 3, 1) := by decide +kernel
theorem dX6_item_181 : decode cX6_item 181 = .ok (.iconst 2, 1) := by decide +kernel
theorem dX6_item_182 : decode cX6_item 182 = .ok (.if_icmp .ne 13, 3) := by decide +kernel
theorem dX6_item_185 : decode cX6_item 185 = .ok (.aload_n 0, 1) := by decide +kernel
theorem dX6_item_186 : decode cX6_item 186 = .ok (.getfield 16, 3) := by decide +kernel
theorem dX6_item_189 : decode cX6_item 189 = .ok (.iload 5, 2) := by decide +kernel
theorem dX6_item_191 : decode cX6_item 191 = .ok (.iaload, 1) := by decide +kernel
theorem dX6_item_192 : decode cX6_item 192 = .ok (.goto 10, 3) := by decide +kernel
theorem dX6_item_195 : decode cX6_item 195 = .ok (.aload_n 0, 1) := by decide +kernel
theorem dX6_item_196 : decode cX6_item 196 = .ok (.getfield 19, 3) := by decide +kernel
theorem dX6_item_199 : decode cX6_item 199 = .ok (.iload 5, 2) := by decide +kernel
theorem dX6_item_201 : decode cX6_item 201 = .ok (.iaload, 1) := by decide +kernel
theorem dX6_item_202 : decode cX6_item 202 = .ok (.ireturn, 1) := by decide +kernel
theorem dX6_count_0 : decode cX6_count 0 = .ok (.aload_n 0, 1) := by decide +kernel
theorem dX6_count_1 : decode cX6_count 1 = .ok (.iconst 0, 1) := by decide +kernel
theorem dX6_count_2 : decode cX6_count 2 = .ok (.putfield 54, 3) := by decide +kernel
theorem dX6_count_5 : decode cX6_count 5 = .ok (.iload_n 1, 1) := by decide +kernel
theorem dX6_count_6 : decode cX6_count 6 = .ok (.ifCond .ne 10, 3) := by decide +kernel
theorem dX6_count_9 : decode cX6_count 9 = .ok (.aload_n 0, 1) := by decide +kernel
theorem dX6_count_10 : decode cX6_count 10 = .ok (.getfield 169, 3) := by decide +kernel
theorem dX6_count_13 : decode cX6_count 13 = .ok (.goto 48, 3) := by decide +kernel
theorem dX6_count_16 : decode cX6_count 16 = .ok (.iload_n 1, 1) := by decide +kernel
theorem dX6_count_17 : decode cX6_count 17 = .ok (.iconst 1, 1) := by decide +kernel
theorem dX6_count_18 : decode cX6_count 18 = .ok (.if_icmp .ne 10, 3) := by decide +kernel
theorem dX6_count_21 : decode cX6_count 21 = .ok (.aload_n 0, 1) := by decide +kernel
theorem dX6_count_22 : decode cX6_count 22 = .ok (.getfield 89, 3) := by decide +kernel
theorem dX6_count_25 : decode cX6_count 25 = .ok (.goto 36, 3) := by decide +kernel
theorem dX6_count_28 : decode cX6_count 28 = .ok (.iload_n 1, 1) := by decide +kernel
theorem dX6_count_29 : decode cX6_count 29 = .ok (.iconst 2, 1) := by decide +kernel
theorem dX6_count_30 : decode cX6_count 30 = .ok (.if_icmp .ne 10, 3) := by decide +kernel
theorem dX6_count_33 : decode cX6_count 33 = .ok (.aload_n 0, 1) := by decide +kernel
theorem dX6_count_34 : decode cX6_count 34 = .ok (.getfield 92, 3) := by decide +kernel
theorem dX6_count_37 : decode cX6_count 37 = .ok (.goto 24, 3) := by decide +kernel
theorem dX6_count_40 : decode cX6_count 40 = .ok (.iload_n 1, 1) := by decide +kernel
theorem dX6_count_41 : decode cX6_count 41 = .ok (.iconst 3, 1) := by decide +kernel
theorem dX6_count_42 : decode cX6_count 42 = .ok (.if_icmp .ne 18, 3) := by decide +kernel
theorem dX6_count_45 : decode cX6_count 45 = .ok (.aload_n 0, 1) := by decide +kernel
theorem dX6_count_46 : decode cX6_count 46 = .ok (.getfield 47, 3) := by decide +kernel
theorem dX6_count_49 : decode cX6_count 49 = .ok (.ifCond .ge 7, 3) := by decide +kernel
theorem dX6_count_52 : decode cX6_count 52 = .ok (.iconst 0, 1) := by decide +kernel
theorem dX6_count_53 : decode cX6_count 53 = .ok (.goto 8, 3) := by decide +kernel
theorem dX6_count_56 : decode cX6_count 56 = .ok (.iconst 1, 1) := by decide +kernel
theorem dX6_count_57 : decode cX6_count 57 = .ok (.goto 4, 3) := by decide +kernel
theorem dX6_count_60 : decode cX6_count 60 = .ok (.iconst (-1), 1) := by decide +kernel
theorem dX6_count_61 : decode cX6_count 61 = .ok (.ireturn, 1) := by decide +kernel
set_option maxRecDepth 20000 in
theorem ggX6_sum_X6_sums : GoodIn wsX6_sum wsX6_sums := goodIn_r _ [14, 4, 5, 15, 6, 7, 16, 17, 18, 19, 20, 21, 22, 23, 24, 25, 13, 26, 27, 28, 29, 30, 31, 32, 33, 34, 35, 36, 37, 38, 39, 40, 41, 42, 43, 44, 45, 46, 47, 48, 49, 50, 51, 52, 53, 54, 55, 56, 57, 58] rfl (by decide +kernel)
set_option maxRecDepth 20000 in
theorem gX6_sum_X6_sums : GoodIn wsX6_sum (wsV RX6 154 RX6 yX6_sums wsX6_sums) := goodIn_app (goodIn_of _ (by decide +kernel)) ggX6_sum_X6_sums
theorem dX6_sum_0 : decode cX6_sum 0 = .ok (.aload_n 0, 1) := by decide +kernel
theorem dX6_sum_1 : decode cX6_sum 1 = .ok (.iconst 0, 1) := by decide +kernel
theorem dX6_sum_2 : decode cX6_sum 2 = .ok (.putfield 54, 3) := by decide +kernel
theorem dX6_sum_5 : decode cX6_sum 5 = .ok (.aload_n 0, 1) := by decide +kernel
theorem dX6_sum_6 : decode cX6_sum 6 = .ok (.getfield 92, 3) := by decide +kernel
theorem dX6_sum_9 : decode cX6_sum 9 = .ok (.ifCond .ne 5, 3) := by decide +kernel
theorem dX6_sum_12 : decode cX6_sum 12 = .ok (.lconst 0, 1) := by decide +kernel
theorem dX6_sum_13 : decode cX6_sum 13 = .ok (.lreturn, 1) := by decide +kernel
theorem dX6_sum_14 : decode cX6_sum 14 = .ok (.aload_n 0, 1) := by decide +kernel
theorem dX6_sum_15 : decode cX6_sum 15 = .ok (.sipush 4200, 3) := by decide +kernel
theorem dX6_sum_18 : decode cX6_sum 18 = .ok (.aload_n 0, 1) := by decide +kernel
theorem dX6_sum_19 : decode cX6_sum 19 = .ok (.getfield 92, 3) := by decide +kernel
theorem dX6_sum_22 : decode cX6_sum 22 = .ok (.aload_n 0, 1) := by decide +kernel
theorem dX6_sum_23 : decode cX6_sum 23 = .ok (.getfield 151, 3) := by decide +kernel
theorem dX6_sum_26 : decode cX6_sum 26 = .ok (.invokevirtual 154, 3) := by decide +kernel
theorem dX6_sum_29 : decode cX6_sum 29 = .ok (.iload_n 1, 1) := by decide +kernel
theorem dX6_sum_30 : decode cX6_sum 30 = .ok (.ifCond .ne 10, 3) := by decide +kernel
theorem dX6_sum_33 : decode cX6_sum 33 = .ok (.aload_n 0, 1) := by decide +kernel
theorem dX6_sum_34 : decode cX6_sum 34 = .ok (.getfield 114, 3) := by decide +kernel
theorem dX6_sum_37 : decode cX6_sum 37 = .ok (.goto 62, 3) := by decide +kernel
theorem dX6_sum_40 : decode cX6_sum 40 = .ok (.iload_n 1, 1) := by decide +kernel
theorem dX6_sum_41 : decode cX6_sum 41 = .ok (.iconst 1, 1) := by decide +kernel
theorem dX6_sum_42 : decode cX6_sum 42 = .ok (.if_icmp .ne 10, 3) := by decide +kernel
theorem dX6_sum_45 : decode cX6_sum 45 = .ok (.aload_n 0, 1) := by decide +kernel
theorem dX6_sum_46 : decode cX6_sum 46 = .ok (.getfield 118, 3) := by decide +kernel
theorem dX6_sum_49 : decode cX6_sum 49 = .ok (.goto 50, 3) := by decide +kernel
theorem dX6_sum_52 : decode cX6_sum 52 = .ok (.iload_n 1, 1) := by decide +kernel
theorem dX6_sum_53 : decode cX6_sum 53 = .ok (.iconst 2, 1) := by decide +kernel
theorem dX6_sum_54 : decode cX6_sum 54 = .ok (.if_icmp .ne 10, 3) := by decide +kernel
theorem dX6_sum_57 : decode cX6_sum 57 = .ok (.aload_n 0, 1) := by decide +kernel
theorem dX6_sum_58 : decode cX6_sum 58 = .ok (.getfield 124, 3) := by decide +kernel
theorem dX6_sum_61 : decode cX6_sum 61 = .ok (.goto 38, 3) := by decide +kernel
theorem dX6_sum_64 : decode cX6_sum 64 = .ok (.iload_n 1, 1) := by decide +kernel
theorem dX6_sum_65 : decode cX6_sum 65 = .ok (.iconst 3, 1) := by decide +kernel
theorem dX6_sum_66 : decode cX6_sum 66 = .ok (.if_icmp .ne 12, 3) := by decide +kernel
theorem dX6_sum_69 : decode cX6_sum 69 = .ok (.aload_n 0, 1) := by decide +kernel
theorem dX6_sum_70 : decode cX6_sum 70 = .ok (.getfield 51, 3) := by decide +kernel
theorem dX6_sum_73 : decode cX6_sum 73 = .ok (.iconst 0, 1) := by decide +kernel
theorem dX6_sum_74 : decode cX6_sum 74 = .ok (.laload, 1) := by decide +kernel
theorem dX6_sum_75 : decode cX6_sum 75 = .ok (.goto 24, 3) := by decide +kernel
theorem dX6_sum_78 : decode cX6_sum 78 = .ok (.iload_n 1, 1) := by decide +kernel
theorem dX6_sum_79 : decode cX6_sum 79 = .ok (.iconst 4, 1) := by decide +kernel
theorem dX6_sum_80 : decode cX6_sum 80 = .ok (.if_icmp .ne 18, 3) := by decide +kernel
theorem dX6_sum_83 : decode cX6_sum 83 = .ok (.aload_n 0, 1) := by decide +kernel
theorem dX6_sum_84 : decode cX6_sum 84 = .ok (.getfield 47, 3) := by decide +kernel
theorem dX6_sum_87 : decode cX6_sum 87 = .ok (.ifCond .lt 11, 3) := by decide +kernel
theorem dX6_sum_90 : decode cX6_sum 90 = .ok (.aload_n 0, 1) := by decide +kernel
theorem dX6_sum_91 : decode cX6_sum 91 = .ok (.getfield 176, 3) := by decide +kernel
theorem dX6_sum_94 : decode cX6_sum 94 = .ok (.i2l, 1) := by decide +kernel
theorem dX6_sum_95 : decode cX6_sum 95 = .ok (.goto 4, 3) := by decide +kernel
theorem dX6_sum_98 : decode cX6_sum 98 = .ok (.lconst 0, 1) := by decide +kernel
theorem dX6_sum_99 : decode cX6_sum 99 = .ok (.lreturn, 1) := by decide +kernel
theorem dJ9_floorMod_7cf53_0 : decode cJ9_floorMod_7cf53 0 = .ok (.iload_n 0, 1) := by decide +kernel
theorem dJ9_floorMod_7cf53_1 : decode cJ9_floorMod_7cf53 1 = .ok (.iload_n 1, 1) := by decide +kernel
theorem dJ9_floorMod_7cf53_2 : decode cJ9_floorMod_7cf53 2 = .ok (.irem, 1) := by decide +kernel
theorem dJ9_floorMod_7cf53_3 : decode cJ9_floorMod_7cf53 3 = .ok (.istore_n 2, 1) := by decide +kernel
theorem dJ9_floorMod_7cf53_4 : decode cJ9_floorMod_7cf53 4 = .ok (.iload_n 0, 1) := by decide +kernel
theorem dJ9_floorMod_7cf53_5 : decode cJ9_floorMod_7cf53 5 = .ok (.iload_n 1, 1) := by decide +kernel
theorem dJ9_floorMod_7cf53_6 : decode cJ9_floorMod_7cf53 6 = .ok (.ixor, 1) := by decide +kernel
theorem dJ9_floorMod_7cf53_7 : decode cJ9_floorMod_7cf53 7 = .ok (.ifCond .ge 11, 3) := by decide +kernel
theorem dJ9_floorMod_7cf53_10 : decode cJ9_floorMod_7cf53 10 = .ok (.iload_n 2, 1) := by decide +kernel
theorem dJ9_floorMod_7cf53_11 : decode cJ9_floorMod_7cf53 11 = .ok (.ifCond .eq 7, 3) := by decide +kernel
theorem dJ9_floorMod_7cf53_14 : decode cJ9_floorMod_7cf53 14 = .ok (.iload_n 2, 1) := by decide +kernel
theorem dJ9_floorMod_7cf53_15 : decode cJ9_floorMod_7cf53 15 = .ok (.iload_n 1, 1) := by decide +kernel
theorem dJ9_floorMod_7cf53_16 : decode cJ9_floorMod_7cf53 16 = .ok (.iadd, 1) := by decide +kernel
theorem dJ9_floorMod_7cf53_17 : decode cJ9_floorMod_7cf53 17 = .ok (.ireturn, 1) := by decide +kernel
theorem dJ9_floorMod_7cf53_18 : decode cJ9_floorMod_7cf53 18 = .ok (.iload_n 2, 1) := by decide +kernel
theorem dJ9_floorMod_7cf53_19 : decode cJ9_floorMod_7cf53 19 = .ok (.ireturn, 1) := by decide +kernel
theorem dJ9_abs_067f4_0 : decode cJ9_abs_067f4 0 = .ok (.lload_n 0, 1) := by decide +kernel
theorem dJ9_abs_067f4_1 : decode cJ9_abs_067f4 1 = .ok (.lconst 0, 1) := by decide +kernel
theorem dJ9_abs_067f4_2 : decode cJ9_abs_067f4 2 = .ok (.lcmp, 1) := by decide +kernel
theorem dJ9_abs_067f4_3 : decode cJ9_abs_067f4 3 = .ok (.ifCond .ge 8, 3) := by decide +kernel
theorem dJ9_abs_067f4_6 : decode cJ9_abs_067f4 6 = .ok (.lload_n 0, 1) := by decide +kernel
theorem dJ9_abs_067f4_7 : decode cJ9_abs_067f4 7 = .ok (.lneg, 1) := by decide +kernel
theorem dJ9_abs_067f4_8 : decode cJ9_abs_067f4 8 = .ok (.goto 4, 3) := by decide +kernel
theorem dJ9_abs_067f4_11 : decode cJ9_abs_067f4 11 = .ok (.lload_n 0, 1) := by decide +kernel
theorem dJ9_abs_067f4_12 : decode cJ9_abs_067f4 12 = .ok (.lreturn, 1) := by decide +kernel
theorem dJ9_max_7cf53_0 : decode cJ9_max_7cf53 0 = .ok (.iload_n 0, 1) := by decide +kernel
theorem dJ9_max_7cf53_1 : decode cJ9_max_7cf53 1 = .ok (.iload_n 1, 1) := by decide +kernel
theorem dJ9_max_7cf53_2 : decode cJ9_max_7cf53 2 = .ok (.if_icmp .lt 7, 3) := by decide +kernel
theorem dJ9_max_7cf53_5 : decode cJ9_max_7cf53 5 = .ok (.iload_n 0, 1) := by decide +kernel
theorem dJ9_max_7cf53_6 : decode cJ9_max_7cf53 6 = .ok (.goto 4, 3) := by decide +kernel
theorem dJ9_max_7cf53_9 : decode cJ9_max_7cf53 9 = .ok (.iload_n 1, 1) := by decide +kernel
theorem dJ9_max_7cf53_10 : decode cJ9_max_7cf53 10 = .ok (.ireturn, 1) := by decide +kernel
theorem dJ9_max_f86c9_0 : decode cJ9_max_f86c9 0 = .ok (.lload_n 0, 1) := by decide +kernel
theorem dJ9_max_f86c9_1 : decode cJ9_max_f86c9 1 = .ok (.lload_n 2, 1) := by decide +kernel
theorem dJ9_max_f86c9_2 : decode cJ9_max_f86c9 2 = .ok (.lcmp, 1) := by decide +kernel
theorem dJ9_max_f86c9_3 : decode cJ9_max_f86c9 3 = .ok (.ifCond .lt 7, 3) := by decide +kernel
theorem dJ9_max_f86c9_6 : decode cJ9_max_f86c9 6 = .ok (.lload_n 0, 1) := by decide +kernel
theorem dJ9_max_f86c9_7 : decode cJ9_max_f86c9 7 = .ok (.goto 4, 3) := by decide +kernel
theorem dJ9_max_f86c9_10 : decode cJ9_max_f86c9 10 = .ok (.lload_n 2, 1) := by decide +kernel
theorem dJ9_max_f86c9_11 : decode cJ9_max_f86c9 11 = .ok (.lreturn, 1) := by decide +kernel
theorem dJ9_min_7cf53_0 : decode cJ9_min_7cf53 0 = .ok (.iload_n 0, 1) := by decide +kernel
theorem dJ9_min_7cf53_1 : decode cJ9_min_7cf53 1 = .ok (.iload_n 1, 1) := by decide +kernel
theorem dJ9_min_7cf53_2 : decode cJ9_min_7cf53 2 = .ok (.if_icmp .gt 7, 3) := by decide +kernel
theorem dJ9_min_7cf53_5 : decode cJ9_min_7cf53 5 = .ok (.iload_n 0, 1) := by decide +kernel
theorem dJ9_min_7cf53_6 : decode cJ9_min_7cf53 6 = .ok (.goto 4, 3) := by decide +kernel
theorem dJ9_min_7cf53_9 : decode cJ9_min_7cf53 9 = .ok (.iload_n 1, 1) := by decide +kernel
theorem dJ9_min_7cf53_10 : decode cJ9_min_7cf53 10 = .ok (.ireturn, 1) := by decide +kernel
theorem dJ9_min_f86c9_0 : decode cJ9_min_f86c9 0 = .ok (.lload_n 0, 1) := by decide +kernel
theorem dJ9_min_f86c9_1 : decode cJ9_min_f86c9 1 = .ok (.lload_n 2, 1) := by decide +kernel
theorem dJ9_min_f86c9_2 : decode cJ9_min_f86c9 2 = .ok (.lcmp, 1) := by decide +kernel
theorem dJ9_min_f86c9_3 : decode cJ9_min_f86c9 3 = .ok (.ifCond .gt 7, 3) := by decide +kernel
theorem dJ9_min_f86c9_6 : decode cJ9_min_f86c9 6 = .ok (.lload_n 0, 1) := by decide +kernel
theorem dJ9_min_f86c9_7 : decode cJ9_min_f86c9 7 = .ok (.goto 4, 3) := by decide +kernel
theorem dJ9_min_f86c9_10 : decode cJ9_min_f86c9 10 = .ok (.lload_n 2, 1) := by decide +kernel
theorem dJ9_min_f86c9_11 : decode cJ9_min_f86c9 11 = .ok (.lreturn, 1) := by decide +kernel
theorem dJ7_fill_d0a16_0 : decode cJ7_fill_d0a16 0 = .ok (.iconst 0, 1) := by decide +kernel
theorem dJ7_fill_d0a16_1 : decode cJ7_fill_d0a16 1 = .ok (.istore_n 3, 1) := by decide +kernel
theorem dJ7_fill_d0a16_2 : decode cJ7_fill_d0a16 2 = .ok (.aload_n 0, 1) := by decide +kernel
theorem dJ7_fill_d0a16_3 : decode cJ7_fill_d0a16 3 = .ok (.arraylength, 1) := by decide +kernel
theorem dJ7_fill_d0a16_4 : decode cJ7_fill_d0a16 4 = .ok (.istore 4, 2) := by decide +kernel
theorem dJ7_fill_d0a16_6 : decode cJ7_fill_d0a16 6 = .ok (.iload_n 3, 1) := by decide +kernel
theorem dJ7_fill_d0a16_7 : decode cJ7_fill_d0a16 7 = .ok (.iload 4, 2) := by decide +kernel
theorem dJ7_fill_d0a16_9 : decode cJ7_fill_d0a16 9 = .ok (.if_icmp .ge 13, 3) := by decide +kernel
theorem dJ7_fill_d0a16_12 : decode cJ7_fill_d0a16 12 = .ok (.aload_n 0, 1) := by decide +kernel
theorem dJ7_fill_d0a16_13 : decode cJ7_fill_d0a16 13 = .ok (.iload_n 3, 1) := by decide +kernel
theorem dJ7_fill_d0a16_14 : decode cJ7_fill_d0a16 14 = .ok (.lload_n 1, 1) := by decide +kernel
theorem dJ7_fill_d0a16_15 : decode cJ7_fill_d0a16 15 = .ok (.lastore, 1) := by decide +kernel
theorem dJ7_fill_d0a16_16 : decode cJ7_fill_d0a16 16 = .ok (.iinc 3 1, 3) := by decide +kernel
theorem dJ7_fill_d0a16_19 : decode cJ7_fill_d0a16 19 = .ok (.goto (-13), 3) := by decide +kernel
theorem dJ7_fill_d0a16_22 : decode cJ7_fill_d0a16 22 = .ok (.return_, 1) := by decide +kernel
theorem dJ7_copyOf_59c91_0 : decode cJ7_copyOf_59c91 0 = .ok (.iload_n 1, 1) := by decide +kernel
theorem dJ7_copyOf_59c91_1 : decode cJ7_copyOf_59c91 1 = .ok (.aload_n 0, 1) := by decide +kernel
theorem dJ7_copyOf_59c91_2 : decode cJ7_copyOf_59c91 2 = .ok (.arraylength, 1) := by decide +kernel
theorem dJ7_copyOf_59c91_3 : decode cJ7_copyOf_59c91 3 = .ok (.if_icmp .ne 11, 3) := by decide +kernel
theorem dJ7_copyOf_59c91_6 : decode cJ7_copyOf_59c91 6 = .ok (.aload_n 0, 1) := by decide +kernel
theorem dJ7_copyOf_59c91_7 : decode cJ7_copyOf_59c91 7 = .ok (.invokevirtual 316, 3) := by decide +kernel
theorem dJ7_copyOf_59c91_10 : decode cJ7_copyOf_59c91 10 = .ok (.checkcast 317, 3) := by decide +kernel
theorem dJ7_copyOf_59c91_13 : decode cJ7_copyOf_59c91 13 = .ok (.areturn, 1) := by decide +kernel
theorem dJ7_copyOf_59c91_14 : decode cJ7_copyOf_59c91 14 = .ok (.iload_n 1, 1) := by decide +kernel
theorem dJ7_copyOf_59c91_15 : decode cJ7_copyOf_59c91 15 = .ok (.newarray .int, 2) := by decide +kernel
theorem dJ7_copyOf_59c91_17 : decode cJ7_copyOf_59c91 17 = .ok (.astore_n 2, 1) := by decide +kernel
theorem dJ7_copyOf_59c91_18 : decode cJ7_copyOf_59c91 18 = .ok (.aload_n 0, 1) := by decide +kernel
theorem dJ7_copyOf_59c91_19 : decode cJ7_copyOf_59c91 19 = .ok (.iconst 0, 1) := by decide +kernel
theorem dJ7_copyOf_59c91_20 : decode cJ7_copyOf_59c91 20 = .ok (.aload_n 2, 1) := by decide +kernel
theorem dJ7_copyOf_59c91_21 : decode cJ7_copyOf_59c91 21 = .ok (.iconst 0, 1) := by decide +kernel
theorem dJ7_copyOf_59c91_22 : decode cJ7_copyOf_59c91 22 = .ok (.aload_n 0, 1) := by decide +kernel
theorem dJ7_copyOf_59c91_23 : decode cJ7_copyOf_59c91 23 = .ok (.arraylength, 1) := by decide +kernel
theorem dJ7_copyOf_59c91_24 : decode cJ7_copyOf_59c91 24 = .ok (.iload_n 1, 1) := by decide +kernel
theorem dJ7_copyOf_59c91_25 : decode cJ7_copyOf_59c91 25 = .ok (.invokestatic 304, 3) := by decide +kernel
theorem dJ7_copyOf_59c91_28 : decode cJ7_copyOf_59c91 28 = .ok (.invokestatic 150, 3) := by decide +kernel
theorem dJ7_copyOf_59c91_31 : decode cJ7_copyOf_59c91 31 = .ok (.aload_n 2, 1) := by decide +kernel
theorem dJ7_copyOf_59c91_32 : decode cJ7_copyOf_59c91 32 = .ok (.areturn, 1) := by decide +kernel
