theorem dX5_init_47 : decode cX5_init 47 = .ok (.putfield 35, 3) := by decide +kernel
theorem dX5_init_50 : decode cX5_init 50 = .ok (.aload_n 0, 1) := by decide +kernel
theorem dX5_init_51 : decode cX5_init 51 = .ok (.getfield 14, 3) := by decide +kernel
theorem dX5_init_54 : decode cX5_init 54 = .ok (.invokevirtual 39, 3) := by decide +kernel
theorem dX5_init_57 : decode cX5_init 57 = .ok (.pop, 1) := by decide +kernel
theorem dX5_init_58 : decode cX5_init 58 = .ok (.aload_n 0, 1) := by decide +kernel
theorem dX5_init_59 : decode cX5_init 59 = .ok (.iconst 1, 1) := by decide +kernel
theorem dX5_init_60 : decode cX5_init 60 = .ok (.putfield 43, 3) := by decide +kernel
theorem dX5_init_63 : decode cX5_init 63 = .ok (.return_, 1) := by decide +kernel
set_option maxRecDepth 20000 in
theorem ggX5_page_X5_isSize : GoodIn wsX5_page wsX5_isSize := goodIn_r _ [6, 7, 8] (by decide +kernel) (by decide +kernel)
set_option maxRecDepth 20000 in
theorem gX5_page_X5_isSize : GoodIn wsX5_page (va_wsS RX5 47 yX5_isSize wsX5_isSize) := goodIn_app (goodIn_of _ (by decide +kernel)) ggX5_page_X5_isSize
theorem dX5_page_0 : decode cX5_page 0 = .ok (.iload_n 1, 1) := by decide +kernel
theorem dX5_page_1 : decode cX5_page 1 = .ok (.i2l, 1) := by decide +kernel
theorem dX5_page_2 : decode cX5_page 2 = .ok (.invokestatic 47, 3) := by decide +kernel
theorem dX5_page_5 : decode cX5_page 5 = .ok (.ifCond .eq 15, 3) := by decide +kernel
theorem dX5_page_8 : decode cX5_page 8 = .ok (.iload_n 2, 1) := by decide +kernel
theorem dX5_page_9 : decode cX5_page 9 = .ok (.i2l, 1) := by decide +kernel
theorem dX5_page_10 : decode cX5_page 10 = .ok (.invokestatic 47, 3) := by decide +kernel
theorem dX5_page_13 : decode cX5_page 13 = .ok (.ifCond .eq 7, 3) := by decide +kernel
theorem dX5_page_16 : decode cX5_page 16 = .ok (.iload_n 2, 1) := by decide +kernel
theorem dX5_page_17 : decode cX5_page 17 = .ok (.ifCond .ge 5, 3) := by decide +kernel
theorem dX5_page_20 : decode cX5_page 20 = .ok (.iconst 0, 1) := by decide +kernel
theorem dX5_page_21 : decode cX5_page 21 = .ok (.ireturn, 1) := by decide +kernel
theorem dX5_page_22 : decode cX5_page 22 = .ok (.aload_n 0, 1) := by decide +kernel
theorem dX5_page_23 : decode cX5_page 23 = .ok (.iload_n 1, 1) := by decide +kernel
theorem dX5_page_24 : decode cX5_page 24 = .ok (.putfield 51, 3) := by decide +kernel
theorem dX5_page_27 : decode cX5_page 27 = .ok (.aload_n 0, 1) := by decide +kernel
theorem dX5_page_28 : decode cX5_page 28 = .ok (.iload_n 2, 1) := by decide +kernel
theorem dX5_page_29 : decode cX5_page 29 = .ok (.putfield 54, 3) := by decide +kernel
theorem dX5_page_32 : decode cX5_page 32 = .ok (.iconst 1, 1) := by decide +kernel
theorem dX5_page_33 : decode cX5_page 33 = .ok (.ireturn, 1) := by decide +kernel
set_option maxRecDepth 20000 in
theorem ggX5_top_X5_isGlue : GoodIn wsX5_top wsX5_isGlue := goodIn_r _ [8, 9, 10, 7, 11, 12, 13] (by decide +kernel) (by decide +kernel)
set_option maxRecDepth 20000 in
theorem gX5_top_X5_isGlue : GoodIn wsX5_top (va_wsS RX5 57 yX5_isGlue wsX5_isGlue) := goodIn_app (goodIn_of _ (by decide +kernel)) ggX5_top_X5_isGlue
theorem dX5_top_0 : decode cX5_top 0 = .ok (.iload_n 1, 1) := by decide +kernel
theorem dX5_top_1 : decode cX5_top 1 = .ok (.iload_n 2, 1) := by decide +kernel
theorem dX5_top_2 : decode cX5_top 2 = .ok (.iload_n 3, 1) := by decide +kernel
theorem dX5_top_3 : decode cX5_top 3 = .ok (.iload 4, 2) := by decide +kernel
theorem dX5_top_5 : decode cX5_top 5 = .ok (.invokestatic 57, 3) := by decide +kernel
theorem dX5_top_8 : decode cX5_top 8 = .ok (.ifCond .ne 5, 3) := by decide +kernel
theorem dX5_top_11 : decode cX5_top 11 = .ok (.iconst 0, 1) := by decide +kernel
theorem dX5_top_12 : decode cX5_top 12 = .ok (.ireturn, 1) := by decide +kernel
theorem dX5_top_13 : decode cX5_top 13 = .ok (.aload_n 0, 1) := by decide +kernel
theorem dX5_top_14 : decode cX5_top 14 = .ok (.iload_n 1, 1) := by decide +kernel
theorem dX5_top_15 : decode cX5_top 15 = .ok (.putfield 61, 3) := by decide +kernel
theorem dX5_top_18 : decode cX5_top 18 = .ok (.aload_n 0, 1) := by decide +kernel
theorem dX5_top_19 : decode cX5_top 19 = .ok (.iload_n 2, 1) := by decide +kernel
theorem dX5_top_20 : decode cX5_top 20 = .ok (.putfield 64, 3) := by decide +kernel
theorem dX5_top_23 : decode cX5_top 23 = .ok (.aload_n 0, 1) := by decide +kernel
theorem dX5_top_24 : decode cX5_top 24 = .ok (.iload_n 3, 1) := by decide +kernel
theorem dX5_top_25 : decode cX5_top 25 = .ok (.putfield 67, 3) := by decide +kernel
theorem dX5_top_28 : decode cX5_top 28 = .ok (.aload_n 0, 1) := by decide +kernel
theorem dX5_top_29 : decode cX5_top 29 = .ok (.iload 4, 2) := by decide +kernel
theorem dX5_top_31 : decode cX5_top 31 = .ok (.putfield 70, 3) := by decide +kernel
theorem dX5_top_34 : decode cX5_top 34 = .ok (.iconst 1, 1) := by decide +kernel
theorem dX5_top_35 : decode cX5_top 35 = .ok (.ireturn, 1) := by decide +kernel
set_option maxRecDepth 20000 in
theorem ggX5_box_X5_addSolid : GoodIn wsX5_box wsX5_addSolid := goodIn_r _ [5, 6, 7, 8, 4, 9, 10, 11, 12, 13, 14, 15, 16, 17, 18, 19, 20, 21, 22, 23, 24, 25, 26, 27, 28, 29, 30, 31, 32, 33, 34, 35, 36, 37, 38, 39, 40, 41, 42, 43, 44, 45, 46, 47, 48, 49, 50, 51, 52, 53, 54, 55, 56, 57, 58, 59, 60, 61, 62, 63, 64, 65, 66, 67, 68, 69, 70, 71, 72, 73, 74, 75, 76, 77, 78, 79, 80, 81, 82, 83, 84, 85, 86, 87, 88, 89, 90, 91, 92, 93, 94, 95, 96, 97, 98, 99, 100, 101, 102, 103, 104, 105, 106, 107, 108, 109, 110, 111, 112, 113, 114, 115, 116, 117, 118, 119, 120] (by decide +kernel) (by decide +kernel)
set_option maxRecDepth 20000 in
theorem gX5_box_X5_addSolid : GoodIn wsX5_box (wsV RX5 73 RX5 yX5_addSolid wsX5_addSolid) := goodIn_app (goodIn_of _ (by decide +kernel)) ggX5_box_X5_addSolid
theorem dX5_box_0 : decode cX5_box 0 = .ok (.aload_n 0, 1) := by decide +kernel
theorem dX5_box_1 : decode cX5_box 1 = .ok (.iconst 2, 1) := by decide +kernel
theorem dX5_box_2 : decode cX5_box 2 = .ok (.iload_n 1, 1) := by decide +kernel
theorem dX5_box_3 : decode cX5_box 3 = .ok (.iload_n 2, 1) := by decide +kernel
theorem dX5_box_4 : decode cX5_box 4 = .ok (.iload_n 3, 1) := by decide +kernel
theorem dX5_box_5 : decode cX5_box 5 = .ok (.iload 4, 2) := by decide +kernel
theorem dX5_box_7 : decode cX5_box 7 = .ok (.invokevirtual 73, 3) := by decide +kernel
theorem dX5_box_10 : decode cX5_box 10 = .ok (.ireturn, 1) := by decide +kernel
set_option maxRecDepth 20000 in
theorem ggX5_rule_X5_addSolid : GoodIn wsX5_rule wsX5_addSolid := goodIn_r _ [5, 6, 7, 8, 4, 9, 10, 11, 12, 13, 14, 15, 16, 17, 18, 19, 20, 21, 22, 23, 24, 25, 26, 27, 28, 29, 30, 31, 32, 33, 34, 35, 36, 37, 38, 39, 40, 41, 42, 43, 44, 45, 46, 47, 48, 49, 50, 51, 52, 53, 54, 55, 56, 57, 58, 59, 60, 61, 62, 63, 64, 65, 66, 67, 68, 69, 70, 71, 72, 73, 74, 75, 76, 77, 78, 79, 80, 81, 82, 83, 84, 85, 86, 87, 88, 89, 90, 91, 92, 93, 94, 95, 96, 97, 98, 99, 100, 101, 102, 103, 104, 105, 106, 107, 108, 109, 110, 111, 112, 113, 114, 115, 116, 117, 118, 119, 120] (by decide +kernel) (by decide +kernel)
set_option maxRecDepth 20000 in
theorem gX5_rule_X5_addSolid : GoodIn wsX5_rule (wsV RX5 73 RX5 yX5_addSolid wsX5_addSolid) := goodIn_app (goodIn_of _ (by decide +kernel)) ggX5_rule_X5_addSolid
theorem dX5_rule_0 : decode cX5_rule 0 = .ok (.aload_n 0, 1) := by decide +kernel
theorem dX5_rule_1 : decode cX5_rule 1 = .ok (.iconst 4, 1) := by decide +kernel
theorem dX5_rule_2 : decode cX5_rule 2 = .ok (.iload_n 1, 1) := by decide +kernel
theorem dX5_rule_3 : decode cX5_rule 3 = .ok (.iload_n 2, 1) := by decide +kernel
theorem dX5_rule_4 : decode cX5_rule 4 = .ok (.iload_n 3, 1) := by decide +kernel
theorem dX5_rule_5 : decode cX5_rule 5 = .ok (.iconst 0, 1) := by decide +kernel
theorem dX5_rule_6 : decode cX5_rule 6 = .ok (.invokevirtual 73, 3) := by decide +kernel
theorem dX5_rule_9 : decode cX5_rule 9 = .ok (.ireturn, 1) := by decide +kernel
set_option maxRecDepth 20000 in
theorem ggX5_glue_X5_isGlue : GoodIn wsX5_glue wsX5_isGlue := goodIn_r _ [5, 6, 7, 4, 8, 9, 10] (by decide +kernel) (by decide +kernel)
set_option maxRecDepth 20000 in
theorem gX5_glue_X5_isGlue : GoodIn wsX5_glue (va_wsS RX5 57 yX5_isGlue wsX5_isGlue) := goodIn_app (goodIn_of _ (by decide +kernel)) ggX5_glue_X5_isGlue
set_option maxRecDepth 20000 in
theorem ggX5_glue_X5_isFull : GoodIn wsX5_glue wsX5_isFull := goodIn_r _ [14, 15, 16, 17, 18, 4, 19, 20, 21, 22, 23, 24, 25, 1, 26, 27, 28, 29, 30, 31, 32, 33, 34, 35, 36, 37, 38, 39, 40, 41, 42, 43, 44, 45, 46, 47, 48, 93, 94, 95, 96, 97, 98, 99, 100, 101, 102, 103, 104, 105, 106, 107, 108, 109, 110, 111, 112, 113, 114, 115, 116, 117, 118, 119] (by decide +kernel) (by decide +kernel)
set_option maxRecDepth 20000 in
theorem gX5_glue_X5_isFull : GoodIn wsX5_glue (wsV RX5 77 RX5 yX5_isFull wsX5_isFull) := goodIn_app (goodIn_of _ (by decide +kernel)) ggX5_glue_X5_isFull
set_option maxRecDepth 20000 in
theorem ggX5_glue_X0_append : GoodIn wsX5_glue wsX0_append := goodIn_r _ [52, 31, 53, 54, 55, 56, 29, 57, 58, 59, 60, 61, 62, 63, 64, 65, 66, 67, 68, 69, 70, 71, 72, 73, 74, 75, 76, 77, 78, 79, 80, 110, 111] (by decide +kernel) (by decide +kernel)
set_option maxRecDepth 20000 in
theorem gX5_glue_X0_append : GoodIn wsX5_glue (wsV RX5 39 RX0 yX0_append wsX0_append) := goodIn_app (goodIn_of _ (by decide +kernel)) ggX5_glue_X0_append
set_option maxRecDepth 20000 in
theorem ggX5_glue_X0_makeGlue : GoodIn wsX5_glue wsX0_makeGlue := goodIn_r _ [84, 85, 86, 87, 29, 88, 89, 90, 91, 92, 31, 53, 110, 111] (by decide +kernel) (by decide +kernel)
set_option maxRecDepth 20000 in
theorem gX5_glue_X0_makeGlue : GoodIn wsX5_glue (wsV RX5 81 RX0 yX0_makeGlue wsX0_makeGlue) := goodIn_app (goodIn_of _ (by decide +kernel)) ggX5_glue_X0_makeGlue
theorem dX5_glue_0 : decode cX5_glue 0 = .ok (.iload_n 1, 1) := by decide +kernel
theorem dX5_glue_1 : decode cX5_glue 1 = .ok (.iload_n 2, 1) := by decide +kernel
theorem dX5_glue_2 : decode cX5_glue 2 = .ok (.iload_n 3, 1) := by decide +kernel
theorem dX5_glue_3 : decode cX5_glue 3 = .ok (.iload 4, 2) := by decide +kernel
theorem dX5_glue_5 : decode cX5_glue 5 = .ok (.invokestatic 57, 3) := by decide +kernel
theorem dX5_glue_8 : decode cX5_glue 8 = .ok (.ifCond .eq 10, 3) := by decide +kernel
theorem dX5_glue_11 : decode cX5_glue 11 = .ok (.aload_n 0, 1) := by decide +kernel
theorem dX5_glue_12 : decode cX5_glue 12 = .ok (.invokevirtual 77, 3) := by decide +kernel
theorem dX5_glue_15 : decode cX5_glue 15 = .ok (.ifCond .eq 5, 3) := by decide +kernel
theorem dX5_glue_18 : decode cX5_glue 18 = .ok (.iconst 0, 1) := by decide +kernel
theorem dX5_glue_19 : decode cX5_glue 19 = .ok (.ireturn, 1) := by decide +kernel
theorem dX5_glue_20 : decode cX5_glue 20 = .ok (.aload_n 0, 1) := by decide +kernel
theorem dX5_glue_21 : decode cX5_glue 21 = .ok (.getfield 14, 3) := by decide +kernel
theorem dX5_glue_24 : decode cX5_glue 24 = .ok (.aload_n 0, 1) := by decide +kernel
theorem dX5_glue_25 : decode cX5_glue 25 = .ok (.getfield 14, 3) := by decide +kernel
theorem dX5_glue_28 : decode cX5_glue 28 = .ok (.invokevirtual 39, 3) := by decide +kernel
theorem dX5_glue_31 : decode cX5_glue 31 = .ok (.iload_n 1, 1) := by decide +kernel
theorem dX5_glue_32 : decode cX5_glue 32 = .ok (.iload_n 2, 1) := by decide +kernel
theorem dX5_glue_33 : decode cX5_glue 33 = .ok (.iload_n 3, 1) := by decide +kernel
theorem dX5_glue_34 : decode cX5_glue 34 = .ok (.iload 4, 2) := by decide +kernel
theorem dX5_glue_36 : decode cX5_glue 36 = .ok (.invokevirtual 81, 3) := by decide +kernel
theorem dX5_glue_39 : decode cX5_glue 39 = .ok (.iconst 1, 1) := by decide +kernel
theorem dX5_glue_40 : decode cX5_glue 40 = .ok (.ireturn, 1) := by decide +kernel
set_option maxRecDepth 20000 in
theorem ggX5_kern_X5_isSize : GoodIn wsX5_kern wsX5_isSize := goodIn_r _ [5, 6, 7] (by decide +kernel) (by decide +kernel)
set_option maxRecDepth 20000 in
theorem gX5_kern_X5_isSize : GoodIn wsX5_kern (va_wsS RX5 47 yX5_isSize wsX5_isSize) := goodIn_app (goodIn_of _ (by decide +kernel)) ggX5_kern_X5_isSize
set_option maxRecDepth 20000 in
theorem ggX5_kern_X5_isFull : GoodIn wsX5_kern wsX5_isFull := goodIn_r _ [11, 12, 13, 14, 15, 4, 16, 17, 18, 19, 20, 21, 22, 1, 23, 24, 25, 26, 27, 28, 29, 30, 31, 32, 33, 34, 35, 36, 37, 38, 39, 40, 41, 42, 43, 44, 45, 86, 87, 88, 89, 90, 91, 92, 93, 94, 95, 96, 97, 98, 99, 100, 101, 102, 103, 104, 105, 106, 107, 108, 109, 110, 111, 112] (by decide +kernel) (by decide +kernel)
set_option maxRecDepth 20000 in
theorem gX5_kern_X5_isFull : GoodIn wsX5_kern (wsV RX5 77 RX5 yX5_isFull wsX5_isFull) := goodIn_app (goodIn_of _ (by decide +kernel)) ggX5_kern_X5_isFull
set_option maxRecDepth 20000 in
theorem ggX5_kern_X0_append : GoodIn wsX5_kern wsX0_append := goodIn_r _ [49, 28, 50, 51, 52, 53, 26, 54, 55, 56, 57, 58, 59, 60, 61, 62, 63, 64, 65, 66, 67, 68, 69, 70, 71, 72, 73, 74, 75, 76, 77, 103, 104] (by decide +kernel) (by decide +kernel)
set_option maxRecDepth 20000 in
theorem gX5_kern_X0_append : GoodIn wsX5_kern (wsV RX5 39 RX0 yX0_append wsX0_append) := goodIn_app (goodIn_of _ (by decide +kernel)) ggX5_kern_X0_append
set_option maxRecDepth 20000 in
theorem ggX5_kern_X0_makePlain : GoodIn wsX5_kern wsX0_makePlain := goodIn_r _ [81, 82, 83, 84, 26, 85, 28, 50, 103, 104] (by decide +kernel) (by decide +kernel)
set_option maxRecDepth 20000 in
theorem gX5_kern_X0_makePlain : GoodIn wsX5_kern (wsV RX5 85 RX0 yX0_makePlain wsX0_makePlain) := goodIn_app (goodIn_of _ (by decide +kernel)) ggX5_kern_X0_makePlain
theorem dX5_kern_0 : decode cX5_kern 0 = .ok (.iload_n 1, 1) := by decide +kernel
theorem dX5_kern_1 : decode cX5_kern 1 = .ok (.i2l, 1) := by decide +kernel
theorem dX5_kern_2 : decode cX5_kern 2 = .ok (.invokestatic 47, 3) := by decide +kernel
theorem dX5_kern_5 : decode cX5_kern 5 = .ok (.ifCond .eq 10, 3) := by decide +kernel
theorem dX5_kern_8 : decode cX5_kern 8 = .ok (.aload_n 0, 1) := by decide +kernel
theorem dX5_kern_9 : decode cX5_kern 9 = .ok (.invokevirtual 77, 3) := by decide +kernel
theorem dX5_kern_12 : decode cX5_kern 12 = .ok (.ifCond .eq 5, 3) := by decide +kernel
theorem dX5_kern_15 : decode cX5_kern 15 = .ok (.iconst 0, 1) := by decide +kernel
theorem dX5_kern_16 : decode cX5_kern 16 = .ok (.ireturn, 1) := by decide +kernel
theorem dX5_kern_17 : decode cX5_kern 17 = .ok (.aload_n 0, 1) := by decide +kernel
theorem dX5_kern_18 : decode cX5_kern 18 = .ok (.getfield 14, 3) := by decide +kernel
theorem dX5_kern_21 : decode cX5_kern 21 = .ok (.aload_n 0, 1) := by decide +kernel
theorem dX5_kern_22 : decode cX5_kern 22 = .ok (.getfield 14, 3) := by decide +kernel
theorem dX5_kern_25 : decode cX5_kern 25 = .ok (.invokevirtual 39, 3) := by decide +kernel
theorem dX5_kern_28 : decode cX5_kern 28 = .ok (.bipush 6, 2) := by decide +kernel
theorem dX5_kern_30 : decode cX5_kern 30 = .ok (.iload_n 1, 1) := by decide +kernel
theorem dX5_kern_31 : decode cX5_kern 31 = .ok (.invokevirtual 85, 3) := by decide +kernel
theorem dX5_kern_34 : decode cX5_kern 34 = .ok (.iconst 1, 1) := by decide +kernel
theorem dX5_kern_35 : decode cX5_kern 35 = .ok (.ireturn, 1) := by decide +kernel
set_option maxRecDepth 20000 in
theorem ggX5_penalty_X5_isFull : GoodIn wsX5_penalty wsX5_isFull := goodIn_r _ [6, 7, 8, 9, 10, 5, 11, 12, 13, 14, 15, 16, 17, 1, 18, 19, 20, 21, 22, 23, 24, 25, 26, 27, 28, 29, 30, 31, 32, 33, 34, 35, 36, 37, 38, 39, 40, 81, 82, 83, 84, 85, 86, 87, 88, 89, 90, 91, 92, 93, 94, 95, 96, 97, 98, 99, 100, 101, 102, 103, 104, 105, 106, 107] (by decide +kernel) (by decide +kernel)
set_option maxRecDepth 20000 in
theorem gX5_penalty_X5_isFull : GoodIn wsX5_penalty (wsV RX5 77 RX5 yX5_isFull wsX5_isFull) := goodIn_app (goodIn_of _ (by decide +kernel)) ggX5_penalty_X5_isFull
set_option maxRecDepth 20000 in
theorem ggX5_penalty_X0_append : GoodIn wsX5_penalty wsX0_append := goodIn_r _ [44, 23, 45, 46, 47, 48, 21, 49, 50, 51, 52, 53, 54, 55, 56, 57, 58, 59, 60, 61, 62, 63, 64, 65, 66, 67, 68, 69, 70, 71, 72, 98, 99] (by decide +kernel) (by decide +kernel)
set_option maxRecDepth 20000 in
theorem gX5_penalty_X0_append : GoodIn wsX5_penalty (wsV RX5 39 RX0 yX0_append wsX0_append) := goodIn_app (goodIn_of _ (by decide +kernel)) ggX5_penalty_X0_append
set_option maxRecDepth 20000 in
theorem ggX5_penalty_X0_makePlain : GoodIn wsX5_penalty wsX0_makePlain := goodIn_r _ [76, 77, 78, 79, 21, 80, 23, 45, 98, 99] (by decide +kernel) (by decide +kernel)
set_option maxRecDepth 20000 in
theorem gX5_penalty_X0_makePlain : GoodIn wsX5_penalty (wsV RX5 85 RX0 yX0_makePlain wsX0_makePlain) := goodIn_app (goodIn_of _ (by decide +kernel)) ggX5_penalty_X0_makePlain
theorem dX5_penalty_0 : decode cX5_penalty 0 = .ok (.aload_n 0, 1) := by decide +kernel
theorem dX5_penalty_1 : decode cX5_penalty 1 = .ok (.invokevirtual 77, 3) := by decide +kernel
theorem dX5_penalty_4 : decode cX5_penalty 4 = .ok (.ifCond .eq 5, 3) := by decide +kernel
theorem dX5_penalty_7 : decode cX5_penalty 7 = .ok (.iconst 0, 1) := by decide +kernel
theorem dX5_penalty_8 : decode cX5_penalty 8 = .ok (.ireturn, 1) := by decide +kernel
theorem dX5_penalty_9 : decode cX5_penalty 9 = .ok (.aload_n 0, 1) := by decide +kernel
theorem dX5_penalty_10 : decode cX5_penalty 10 = .ok (.getfield 14, 3) := by decide +kernel
theorem dX5_penalty_13 : decode cX5_penalty 13 = .ok (.aload_n 0, 1) := by decide +kernel
theorem dX5_penalty_14 : decode cX5_penalty 14 = .ok (.getfield 14, 3) := by decide +kernel
theorem dX5_penalty_17 : decode cX5_penalty 17 = .ok (.invokevirtual 39, 3) := by decide +kernel
theorem dX5_penalty_20 : decode cX5_penalty 20 = .ok (.bipush 7, 2) := by decide +kernel
theorem dX5_penalty_22 : decode cX5_penalty 22 = .ok (.iload_n 1, 1) := by decide +kernel
theorem dX5_penalty_23 : decode cX5_penalty 23 = .ok (.invokevirtual 85, 3) := by decide +kernel
theorem dX5_penalty_26 : decode cX5_penalty 26 = .ok (.iconst 1, 1) := by decide +kernel
theorem dX5_penalty_27 : decode cX5_penalty 27 = .ok (.ireturn, 1) := by decide +kernel
set_option maxRecDepth 20000 in
theorem ggX5_build_X0_size : GoodIn wsX5_build wsX0_size := goodIn_r _ [8, 9, 300, 301] (by decide +kernel) (by decide +kernel)
set_option maxRecDepth 20000 in
theorem gX5_build_X0_size : GoodIn wsX5_build (wsV RX5 89 RX0 yX0_size wsX0_size) := goodIn_app (goodIn_of _ (by decide +kernel)) ggX5_build_X0_size
set_option maxRecDepth 20000 in
theorem ggX5_build_X5_fillPage : GoodIn wsX5_build wsX5_fillPage := goodIn_r _ [14, 3, 15, 16, 17, 18, 19, 13, 20, 4, 5, 6, 7, 8, 9, 21, 22, 23, 24, 25, 26, 27, 28, 29, 30, 31, 32, 33, 34, 35, 36, 37, 38, 39, 40, 41, 42, 43, 44, 45, 46, 47, 48, 49, 50, 51, 52, 53, 54, 55, 56, 57, 58, 59, 60, 61, 62, 63, 64, 65, 66, 67, 68, 69, 70, 71, 72, 73, 74, 75, 76, 77, 78, 79, 80, 81, 82, 83, 84, 85, 86, 87, 88, 89, 90, 91, 92, 93, 94, 95, 96, 97, 98, 99, 100, 101, 102, 103, 104, 105, 106, 107, 108, 109, 110, 111, 112, 113, 114, 115, 116, 117, 118, 119, 120, 121, 122, 123, 124, 125, 126, 127, 128, 129, 130, 131, 132, 133, 134, 135, 136, 137, 138, 139, 140, 141, 142, 143, 144, 145, 146, 147, 148, 289, 290, 291, 292, 293, 294, 295, 296, 297, 298, 299, 302, 303, 304, 305, 306, 307, 300, 301, 308, 309, 310, 311, 312, 313] (by decide +kernel) (by decide +kernel)
set_option maxRecDepth 20000 in
theorem gX5_build_X5_fillPage : GoodIn wsX5_build (wsV RX5 92 RX5 yX5_fillPage wsX5_fillPage) := goodIn_app (goodIn_of _ (by decide +kernel)) ggX5_build_X5_fillPage
set_option maxRecDepth 20000 in
theorem ggX5_build_X5_endPage : GoodIn wsX5_build wsX5_endPage := goodIn_r _ [152, 16, 15, 153, 3, 154, 155, 146, 147, 58, 148, 116, 156, 65, 66, 67, 68, 69, 70, 71, 72, 73, 74, 75, 76, 77, 78, 79, 80, 81, 82, 83, 22, 23, 7, 24, 9, 25, 84, 85, 86, 87, 88, 89, 36, 90, 91, 92, 93, 94, 95, 96, 97, 157, 158, 159, 160, 161, 13, 162, 163, 164, 165, 122, 123, 124, 166, 167, 168, 169, 170, 171, 172, 173, 174, 175, 176, 177, 178, 179, 180, 181, 182, 183, 184, 185, 186, 187, 188, 189, 190, 191, 192, 193, 194, 195, 196, 197, 198, 199, 200, 201, 202, 203, 204, 205, 206, 207, 208, 209, 210, 211, 212, 213, 214, 215, 216, 217, 35, 37, 218, 219, 220, 221, 222, 223, 224, 225, 226, 227, 228, 229, 230, 231, 232, 233, 234, 235, 236, 133, 134, 135, 237, 137, 138, 139, 238, 239, 240, 241, 242, 5, 6, 8, 243, 244, 245, 246, 247, 248, 249, 250, 251, 252, 253, 254, 255, 256, 257, 258, 259, 260, 52, 53, 54, 261, 262, 263, 264, 60, 61, 115, 289, 290, 291, 292, 293, 294, 295, 296, 297, 298, 299, 302, 303, 304, 305, 306, 307, 308, 309, 310, 311, 312, 313, 300, 301, 314, 315, 316, 317, 318, 319, 320, 321] (by decide +kernel) (by decide +kernel)
set_option maxRecDepth 20000 in
theorem gX5_build_X5_endPage : GoodIn wsX5_build (wsV RX5 95 RX5 yX5_endPage wsX5_endPage) := goodIn_app (goodIn_of _ (by decide +kernel)) ggX5_build_X5_endPage
set_option maxRecDepth 20000 in
theorem ggX5_build_X5_loseAll : GoodIn wsX5_build wsX5_loseAll := goodIn_r _ [268, 154, 16, 3, 15, 269, 270, 271, 169, 272, 172, 261, 262, 263, 58, 264, 60, 61, 116, 115, 273, 274, 275, 7, 276, 9, 277, 278, 279, 280, 25, 213, 214, 215, 216, 217, 35, 36, 37, 218, 174, 175, 219, 220, 77, 221, 222, 223, 224, 225, 226, 227, 197, 228, 229, 210, 211, 212, 289, 290, 291, 292, 293, 294, 295, 296, 297, 298, 299, 314, 315, 316, 317, 302, 303, 304, 305, 306, 307, 300, 301] (by decide +kernel) (by decide +kernel)
set_option maxRecDepth 20000 in
theorem gX5_build_X5_loseAll : GoodIn wsX5_build (wsV RX5 98 RX5 yX5_loseAll wsX5_loseAll) := goodIn_app (goodIn_of _ (by decide +kernel)) ggX5_build_X5_loseAll
set_option maxRecDepth 20000 in
theorem ggX5_build_X5_dropUsed : GoodIn wsX5_build wsX5_dropUsed := goodIn_r _ [284, 16, 15, 3, 285, 286, 287, 7, 288, 9, 25, 209, 210, 211, 212, 289, 290, 291, 292, 293, 294, 295, 296, 297, 298, 299, 302, 303, 304, 305, 306, 307, 300, 301] (by decide +kernel) (by decide +kernel)
set_option maxRecDepth 20000 in
theorem gX5_build_X5_dropUsed : GoodIn wsX5_build (wsV RX5 108 RX5 yX5_dropUsed wsX5_dropUsed) := goodIn_app (goodIn_of _ (by decide +kernel)) ggX5_build_X5_dropUsed
theorem dX5_build_0 : decode cX5_build 0 = .ok (.iconst 0, 1) := by decide +kernel
theorem dX5_build_1 : decode cX5_build 1 = .ok (.istore_n 1, 1) := by decide +kernel
theorem dX5_build_2 : decode cX5_build 2 = .ok (.aload_n 0, 1) := by decide +kernel
theorem dX5_build_3 : decode cX5_build 3 = .ok (.getfield 14, 3) := by decide +kernel
theorem dX5_build_6 : decode cX5_build 6 = .ok (.invokevirtual 89, 3) := by decide +kernel
theorem dX5_build_9 : decode cX5_build 9 = .ok (.istore_n 2, 1) := by decide +kernel
theorem dX5_build_10 : decode cX5_build 10 = .ok (.iconst 0, 1) := by decide +kernel
theorem dX5_build_11 : decode cX5_build 11 = .ok (.istore_n 3, 1) := by decide +kernel
theorem dX5_build_12 : decode cX5_build 12 = .ok (.iload_n 3, 1) := by decide +kernel
theorem dX5_build_13 : decode cX5_build 13 = .ok (.iload_n 2, 1) := by decide +kernel
theorem dX5_build_14 : decode cX5_build 14 = .ok (.if_icmp .ge 40, 3) := by decide +kernel
theorem dX5_build_17 : decode cX5_build 17 = .ok (.aload_n 0, 1) := by decide +kernel
theorem dX5_build_18 : decode cX5_build 18 = .ok (.invokevirtual 92, 3) := by decide +kernel
theorem dX5_build_21 : decode cX5_build 21 = .ok (.ifCond .eq 33, 3) := by decide +kernel
theorem dX5_build_24 : decode cX5_build 24 = .ok (.aload_n 0, 1) := by decide +kernel
theorem dX5_build_25 : decode cX5_build 25 = .ok (.invokevirtual 95, 3) := by decide +kernel
theorem dX5_build_28 : decode cX5_build 28 = .ok (.ifCond .ne 17, 3) := by decide +kernel
theorem dX5_build_31 : decode cX5_build 31 = .ok (.aload_n 0, 1) := by decide +kernel
theorem dX5_build_32 : decode cX5_build 32 = .ok (.invokevirtual 98, 3) := by decide +kernel
theorem dX5_build_35 : decode cX5_build 35 = .ok (.new 101, 3) := by decide +kernel
theorem dX5_build_38 : decode cX5_build 38 = .ok (.dup, 1) := by decide +kernel
theorem dX5_build_39 : decode cX5_build 39 = .ok (.ldc 103, 2) := by decide +kernel
theorem dX5_build_41 : decode cX5_build 41 = .ok (.invokespecial 105, 3) := by decide +kernel
theorem dX5_build_44 : decode cX5_build 44 = .ok (.athrow, 1) := by decide +kernel
theorem dX5_build_45 : decode cX5_build 45 = .ok (.iinc 1 1, 3) := by decide +kernel
theorem dX5_build_48 : decode cX5_build 48 = .ok (.iinc 3 1, 3) := by decide +kernel
theorem dX5_build_51 : decode cX5_build 51 = .ok (.goto (-39), 3) := by decide +kernel
theorem dX5_build_54 : decode cX5_build 54 = .ok (.aload_n 0, 1) := by decide +kernel
theorem dX5_build_55 : decode cX5_build 55 = .ok (.invokevirtual 108, 3) := by decide +kernel
theorem dX5_build_58 : decode cX5_build 58 = .ok (.iload_n 1, 1) := by decide +kernel
theorem dX5_build_59 : decode cX5_build 59 = .ok (.ireturn, 1) := by decide +kernel
set_option maxRecDepth 20000 in
theorem ggX5_about_X3_madePage : GoodIn wsX5_about wsX3_madePage := goodIn_r _ [8, 9, 10, 11, 12, 13, 14, 15, 37, 38, 39, 40] (by decide +kernel) (by decide +kernel)
set_option maxRecDepth 20000 in
theorem gX5_about_X3_madePage : GoodIn wsX5_about (wsV RX5 111 RX3 yX3_madePage wsX3_madePage) := goodIn_app (goodIn_of _ (by decide +kernel)) ggX5_about_X3_madePage
set_option maxRecDepth 20000 in
theorem ggX5_about_X0_size : GoodIn wsX5_about wsX0_size := goodIn_r _ [20, 21, 41, 42] (by decide +kernel) (by decide +kernel)
set_option maxRecDepth 20000 in
theorem gX5_about_X0_size : GoodIn wsX5_about (wsV RX5 89 RX0 yX0_size wsX0_size) := goodIn_app (goodIn_of _ (by decide +kernel)) ggX5_about_X0_size
theorem dX5_about_0 : decode cX5_about 0 = .ok (.aload_n 0, 1) := by decide +kernel
theorem dX5_about_1 : decode cX5_about 1 = .ok (.getfield 28, 3) := by decide +kernel
theorem dX5_about_4 : decode cX5_about 4 = .ok (.iload_n 1, 1) := by decide +kernel
theorem dX5_about_5 : decode cX5_about 5 = .ok (.invokevirtual 111, 3) := by decide +kernel
theorem dX5_about_8 : decode cX5_about 8 = .ok (.astore_n 3, 1) := by decide +kernel
theorem dX5_about_9 : decode cX5_about 9 = .ok (.aload_n 3, 1) := by decide +kernel
theorem dX5_about_10 : decode cX5_about 10 = .ok (.ifnonnull 13, 3) := by decide +kernel
theorem dX5_about_13 : decode cX5_about 13 = .ok (.new 115, 3) := by decide +kernel
theorem dX5_about_16 : decode cX5_about 16 = .ok (.dup, 1) := by decide +kernel
theorem dX5_about_17 : decode cX5_about 17 = .ok (.ldc 117, 2) := by decide +kernel
theorem dX5_about_19 : decode cX5_about 19 = .ok (.invokespecial 119, 3) := by decide +kernel
theorem dX5_about_22 : decode cX5_about 22 = .ok (.athrow, 1) := by decide +kernel
theorem dX5_about_23 : decode cX5_about 23 = .ok (.iload_n 2, 1) := by decide +kernel
theorem dX5_about_24 : decode cX5_about 24 = .ok (.tableswitch 55 0 3 #[32, 37, 42, 47], 32) := by decide +kernel
theorem dX5_about_56 : decode cX5_about 56 = .ok (.aload_n 3, 1) := by decide +kernel
theorem dX5_about_57 : decode cX5_about 57 = .ok (.getfield 120, 3) := by decide +kernel
theorem dX5_about_60 : decode cX5_about 60 = .ok (.ireturn, 1) := by decide +kernel
theorem dX5_about_61 : decode cX5_about 61 = .ok (.aload_n 3, 1) := by decide +kernel
theorem dX5_about_62 : decode cX5_about 62 = .ok (.getfield 125, 3) := by decide +kernel
theorem dX5_about_65 : decode cX5_about 65 = .ok (.ireturn, 1) := by decide +kernel
theorem dX5_about_66 : decode cX5_about 66 = .ok (.aload_n 3, 1) := by decide +kernel
theorem dX5_about_67 : decode cX5_about 67 = .ok (.getfield 128, 3) := by decide +kernel
theorem dX5_about_70 : decode cX5_about 70 = .ok (.ireturn, 1) := by decide +kernel
theorem dX5_about_71 : decode cX5_about 71 = .ok (.aload_n 3, 1) := by decide +kernel
theorem dX5_about_72 : decode cX5_about 72 = .ok (.getfield 131, 3) := by decide +kernel
theorem dX5_about_75 : decode cX5_about 75 = .ok (.invokevirtual 89, 3) := by decide +kernel
theorem dX5_about_78 : decode cX5_about 78 = .ok (.ireturn, 1) := by decide +kernel
theorem dX5_about_79 : decode cX5_about 79 = .ok (.new 115, 3) := by decide +kernel
theorem dX5_about_82 : decode cX5_about 82 = .ok (.dup, 1) := by decide +kernel
theorem dX5_about_83 : decode cX5_about 83 = .ok (.ldc 134, 2) := by decide +kernel
theorem dX5_about_85 : decode cX5_about 85 = .ok (.invokespecial 119, 3) := by decide +kernel
theorem dX5_about_88 : decode cX5_about 88 = .ok (.athrow, 1) := by decide +kernel
set_option maxRecDepth 20000 in
theorem ggX5_item_X3_madePage : GoodIn wsX5_item wsX3_madePage := goodIn_r _ [8, 9, 10, 11, 12, 13, 14, 15, 42, 43, 44, 45] (by decide +kernel) (by decide +kernel)
set_option maxRecDepth 20000 in
theorem gX5_item_X3_madePage : GoodIn wsX5_item (wsV RX5 111 RX3 yX3_madePage wsX3_madePage) := goodIn_app (goodIn_of _ (by decide +kernel)) ggX5_item_X3_madePage
set_option maxRecDepth 20000 in
theorem ggX5_item_X0_size : GoodIn wsX5_item wsX0_size := goodIn_r _ [20, 21, 46, 47] (by decide +kernel) (by decide +kernel)
set_option maxRecDepth 20000 in
theorem gX5_item_X0_size : GoodIn wsX5_item (wsV RX5 89 RX0 yX0_size wsX0_size) := goodIn_app (goodIn_of _ (by decide +kernel)) ggX5_item_X0_size
set_option maxRecDepth 20000 in
theorem ggX5_item_X0_at : GoodIn wsX5_item wsX0_at := goodIn_r _ [25, 21, 26, 46, 47] (by decide +kernel) (by decide +kernel)
set_option maxRecDepth 20000 in
theorem gX5_item_X0_at : GoodIn wsX5_item (wsV RX5 138 RX0 yX0_at wsX0_at) := goodIn_app (goodIn_of _ (by decide +kernel)) ggX5_item_X0_at
theorem dX5_item_0 : decode cX5_item 0 = .ok (.aload_n 0, 1) := by decide +kernel
theorem dX5_item_1 : decode cX5_item 1 = .ok (.getfield 28, 3) := by decide +kernel
theorem dX5_item_4 : decode cX5_item 4 = .ok (.iload_n 1, 1) := by decide +kernel
theorem dX5_item_5 : decode cX5_item 5 = .ok (.invokevirtual 111, 3) := by decide +kernel
theorem dX5_item_8 : decode cX5_item 8 = .ok (.astore 4, 2) := by decide +kernel
theorem dX5_item_10 : decode cX5_item 10 = .ok (.aload 4, 2) := by decide +kernel
theorem dX5_item_12 : decode cX5_item 12 = .ok (.ifnonnull 13, 3) := by decide +kernel
theorem dX5_item_15 : decode cX5_item 15 = .ok (.new 115, 3) := by decide +kernel
theorem dX5_item_18 : decode cX5_item 18 = .ok (.dup, 1) := by decide +kernel
theorem dX5_item_19 : decode cX5_item 19 = .ok (.ldc 117, 2) := by decide +kernel
theorem dX5_item_21 : decode cX5_item 21 = .ok (.invokespecial 119, 3) := by decide +kernel
theorem dX5_item_24 : decode cX5_item 24 = .ok (.athrow, 1) := by decide +kernel
theorem dX5_item_25 : decode cX5_item 25 = .ok (.iload_n 2, 1) := by decide +kernel
theorem dX5_item_26 : decode cX5_item 26 = .ok (.ifCond .lt 15, 3) := by decide +kernel
theorem dX5_item_29 : decode cX5_item 29 = .ok (.iload_n 2, 1) := by decide +kernel
theorem dX5_item_30 : decode cX5_item 30 = .ok (.aload 4, 2) := by decide +kernel
theorem dX5_item_32 : decode cX5_item 32 = .ok (.getfield 131, 3) := by decide +kernel
theorem dX5_item_35 : decode cX5_item 35 = .ok (.invokevirtual 89, 3) := by decide +kernel
theorem dX5_item_38 : decode cX5_item 38 = .ok (.if_icmp .lt 13, 3) := by decide +kernel
theorem dX5_item_41 : decode cX5_item 41 = .ok (.new 115, 3) := by decide +kernel
theorem dX5_item_44 : decode cX5_item 44 = .ok (.dup, 1) := by decide +kernel
theorem dX5_item_45 : decode cX5_item 45 = .ok (.ldc 136, 2) := by decide +kernel
theorem dX5_item_47 : decode cX5_item 47 = .ok (.invokespecial 119, 3) := by decide +kernel
theorem dX5_item_50 : decode cX5_item 50 = .ok (.athrow, 1) := by decide +kernel
theorem dX5_item_51 : decode cX5_item 51 = .ok (.iload_n 3, 1) := by decide +kernel
theorem dX5_item_52 : decode cX5_item 52 = .ok (.ifCond .lt 8, 3) := by decide +kernel
theorem dX5_item_55 : decode cX5_item 55 = .ok (.iload_n 3, 1) := by decide +kernel
theorem dX5_item_56 : decode cX5_item 56 = .ok (.iconst 3, 1) := by decide +kernel
theorem dX5_item_57 : decode cX5_item 57 = .ok (.if_icmp .le 13, 3) := by decide +kernel
theorem dX5_item_60 : decode cX5_item 60 = .ok (.new 115, 3) := by decide +kernel
theorem dX5_item_63 : decode cX5_item 63 = .ok (.dup, 1) := by decide +kernel
theorem dX5_item_64 : decode cX5_item 64 = .ok (.ldc 134, 2) := by decide +kernel
theorem dX5_item_66 : decode cX5_item 66 = .ok (.invokespecial 119, 3) := by decide +kernel
theorem dX5_item_69 : decode cX5_item 69 = .ok (.athrow, 1) := by decide +kernel
theorem dX5_item_70 : decode cX5_item 70 = .ok (.aload 4, 2) := by decide +kernel
theorem dX5_item_72 : decode cX5_item 72 = .ok (.getfield 131, 3) := by decide +kernel
theorem dX5_item_75 : decode cX5_item 75 = .ok (.iload_n 2, 1) := by decide +kernel
theorem dX5_item_76 : decode cX5_item 76 = .ok (.iload_n 3, 1) := by decide +kernel
theorem dX5_item_77 : decode cX5_item 77 = .ok (.invokevirtual 138, 3) := by decide +kernel
theorem dX5_item_80 : decode cX5_item 80 = .ok (.ireturn, 1) := by decide +kernel
set_option maxRecDepth 20000 in
theorem ggX5_count_X5_toCome : GoodIn wsX5_count wsX5_toCome := goodIn_r _ [7, 8, 9, 10, 11, 12, 13, 14, 15, 26, 27, 28, 29, 30, 31, 32, 33, 34, 35, 36, 41, 42] (by decide +kernel) (by decide +kernel)
set_option maxRecDepth 20000 in
theorem gX5_count_X5_toCome : GoodIn wsX5_count (wsV RX5 145 RX5 yX5_toCome wsX5_toCome) := goodIn_app (goodIn_of _ (by decide +kernel)) ggX5_count_X5_toCome
set_option maxRecDepth 20000 in
theorem ggX5_count_X5_onPage : GoodIn wsX5_count wsX5_onPage := goodIn_r _ [19, 2, 9, 26, 27, 28, 29, 30, 31, 32, 33, 34, 35, 36, 43, 44, 45, 46, 47, 48] (by decide +kernel) (by decide +kernel)
set_option maxRecDepth 20000 in
theorem gX5_count_X5_onPage : GoodIn wsX5_count (wsV RX5 148 RX5 yX5_onPage wsX5_onPage) := goodIn_app (goodIn_of _ (by decide +kernel)) ggX5_count_X5_onPage
set_option maxRecDepth 20000 in
theorem ggX5_count_X2_hasBest : GoodIn wsX5_count wsX2_hasBest := goodIn_r _ [24, 25, 43, 44, 45, 46, 47, 48] (by decide +kernel) (by decide +kernel)
set_option maxRecDepth 20000 in
theorem gX5_count_X2_hasBest : GoodIn wsX5_count (wsV RX5 151 RX2 yX2_hasBest wsX2_hasBest) := goodIn_app (goodIn_of _ (by decide +kernel)) ggX5_count_X2_hasBest
theorem dX5_count_0 : decode cX5_count 0 = .ok (.iload_n 1, 1) := by decide +kernel
theorem dX5_count_1 : decode cX5_count 1 = .ok (.tableswitch 65 0 3 #[31, 39, 44, 49], 31) := by decide +kernel
theorem dX5_count_32 : decode cX5_count 32 = .ok (.aload_n 0, 1) := by decide +kernel
theorem dX5_count_33 : decode cX5_count 33 = .ok (.getfield 28, 3) := by decide +kernel
theorem dX5_count_36 : decode cX5_count 36 = .ok (.getfield 142, 3) := by decide +kernel
theorem dX5_count_39 : decode cX5_count 39 = .ok (.ireturn, 1) := by decide +kernel
theorem dX5_count_40 : decode cX5_count 40 = .ok (.aload_n 0, 1) := by decide +kernel
theorem dX5_count_41 : decode cX5_count 41 = .ok (.invokevirtual 145, 3) := by decide +kernel
theorem dX5_count_44 : decode cX5_count 44 = .ok (.ireturn, 1) := by decide +kernel
theorem dX5_count_45 : decode cX5_count 45 = .ok (.aload_n 0, 1) := by decide +kernel
theorem dX5_count_46 : decode cX5_count 46 = .ok (.invokevirtual 148, 3) := by decide +kernel
theorem dX5_count_49 : decode cX5_count 49 = .ok (.ireturn, 1) := by decide +kernel
theorem dX5_count_50 : decode cX5_count 50 = .ok (.aload_n 0, 1) := by decide +kernel
theorem dX5_count_51 : decode cX5_count 51 = .ok (.getfield 21, 3) := by decide +kernel
theorem dX5_count_54 : decode cX5_count 54 = .ok (.invokevirtual 151, 3) := by decide +kernel
theorem dX5_count_57 : decode cX5_count 57 = .ok (.ifCond .eq 7, 3) := by decide +kernel
theorem dX5_count_60 : decode cX5_count 60 = .ok (.iconst 1, 1) := by decide +kernel
theorem dX5_count_61 : decode cX5_count 61 = .ok (.goto 4, 3) := by decide +kernel
theorem dX5_count_64 : decode cX5_count 64 = .ok (.iconst 0, 1) := by decide +kernel
theorem dX5_count_65 : decode cX5_count 65 = .ok (.ireturn, 1) := by decide +kernel
theorem dX5_count_66 : decode cX5_count 66 = .ok (.iconst (-1), 1) := by decide +kernel
theorem dX5_count_67 : decode cX5_count 67 = .ok (.ireturn, 1) := by decide +kernel
set_option maxRecDepth 20000 in
theorem ggX5_sum_X4_total : GoodIn wsX5_sum wsX4_total := goodIn_r _ [6, 7, 8, 37, 38, 39, 40, 41, 42] (by decide +kernel) (by decide +kernel)
set_option maxRecDepth 20000 in
theorem gX5_sum_X4_total : GoodIn wsX5_sum (wsV RX5 161 RX4 yX4_total wsX4_total) := goodIn_app (goodIn_of _ (by decide +kernel)) ggX5_sum_X4_total
set_option maxRecDepth 20000 in
theorem ggX5_sum_X4_stretchOf : GoodIn wsX5_sum wsX4_stretchOf := goodIn_r _ [12, 13, 37, 38, 39, 40, 41, 42] (by decide +kernel) (by decide +kernel)
set_option maxRecDepth 20000 in
theorem gX5_sum_X4_stretchOf : GoodIn wsX5_sum (wsV RX5 171 RX4 yX4_stretchOf wsX4_stretchOf) := goodIn_app (goodIn_of _ (by decide +kernel)) ggX5_sum_X4_stretchOf
set_option maxRecDepth 20000 in
theorem ggX5_sum_X2_hasBest : GoodIn wsX5_sum wsX2_hasBest := goodIn_r _ [18, 19, 31, 32, 33, 34, 35, 36] (by decide +kernel) (by decide +kernel)
set_option maxRecDepth 20000 in
theorem gX5_sum_X2_hasBest : GoodIn wsX5_sum (wsV RX5 151 RX2 yX2_hasBest wsX2_hasBest) := goodIn_app (goodIn_of _ (by decide +kernel)) ggX5_sum_X2_hasBest
theorem dX5_sum_0 : decode cX5_sum 0 = .ok (.aload_n 0, 1) := by decide +kernel
theorem dX5_sum_1 : decode cX5_sum 1 = .ok (.getfield 21, 3) := by decide +kernel
theorem dX5_sum_4 : decode cX5_sum 4 = .ok (.getfield 154, 3) := by decide +kernel
theorem dX5_sum_7 : decode cX5_sum 7 = .ok (.ifCond .ne 5, 3) := by decide +kernel
theorem dX5_sum_10 : decode cX5_sum 10 = .ok (.lconst 0, 1) := by decide +kernel
theorem dX5_sum_11 : decode cX5_sum 11 = .ok (.lreturn, 1) := by decide +kernel
theorem dX5_sum_12 : decode cX5_sum 12 = .ok (.iload_n 1, 1) := by decide +kernel
theorem dX5_sum_13 : decode cX5_sum 13 = .ok (.tableswitch 102 0 4 #[35, 46, 57, 68, 80], 35) := by decide +kernel
theorem dX5_sum_48 : decode cX5_sum 48 = .ok (.aload_n 0, 1) := by decide +kernel
theorem dX5_sum_49 : decode cX5_sum 49 = .ok (.getfield 21, 3) := by decide +kernel
theorem dX5_sum_52 : decode cX5_sum 52 = .ok (.getfield 158, 3) := by decide +kernel
theorem dX5_sum_55 : decode cX5_sum 55 = .ok (.invokevirtual 161, 3) := by decide +kernel
theorem dX5_sum_58 : decode cX5_sum 58 = .ok (.lreturn, 1) := by decide +kernel
theorem dX5_sum_59 : decode cX5_sum 59 = .ok (.aload_n 0, 1) := by decide +kernel
theorem dX5_sum_60 : decode cX5_sum 60 = .ok (.getfield 21, 3) := by decide +kernel
theorem dX5_sum_63 : decode cX5_sum 63 = .ok (.getfield 158, 3) := by decide +kernel
theorem dX5_sum_66 : decode cX5_sum 66 = .ok (.getfield 165, 3) := by decide +kernel
theorem dX5_sum_69 : decode cX5_sum 69 = .ok (.lreturn, 1) := by decide +kernel
theorem dX5_sum_70 : decode cX5_sum 70 = .ok (.aload_n 0, 1) := by decide +kernel
theorem dX5_sum_71 : decode cX5_sum 71 = .ok (.getfield 21, 3) := by decide +kernel
theorem dX5_sum_74 : decode cX5_sum 74 = .ok (.getfield 158, 3) := by decide +kernel
theorem dX5_sum_77 : decode cX5_sum 77 = .ok (.getfield 168, 3) := by decide +kernel
theorem dX5_sum_80 : decode cX5_sum 80 = .ok (.lreturn, 1) := by decide +kernel
theorem dX5_sum_81 : decode cX5_sum 81 = .ok (.aload_n 0, 1) := by decide +kernel
theorem dX5_sum_82 : decode cX5_sum 82 = .ok (.getfield 21, 3) := by decide +kernel
theorem dX5_sum_85 : decode cX5_sum 85 = .ok (.getfield 158, 3) := by decide +kernel
theorem dX5_sum_88 : decode cX5_sum 88 = .ok (.iconst 0, 1) := by decide +kernel
theorem dX5_sum_89 : decode cX5_sum 89 = .ok (.invokevirtual 171, 3) := by decide +kernel
theorem dX5_sum_92 : decode cX5_sum 92 = .ok (.lreturn, 1) := by decide +kernel
theorem dX5_sum_93 : decode cX5_sum 93 = .ok (.aload_n 0, 1) := by decide +kernel
theorem dX5_sum_94 : decode cX5_sum 94 = .ok (.getfield 21, 3) := by decide +kernel
theorem dX5_sum_97 : decode cX5_sum 97 = .ok (.invokevirtual 151, 3) := by decide +kernel
theorem dX5_sum_100 : decode cX5_sum 100 = .ok (.ifCond .eq 13, 3) := by decide +kernel
theorem dX5_sum_103 : decode cX5_sum 103 = .ok (.aload_n 0, 1) := by decide +kernel
theorem dX5_sum_104 : decode cX5_sum 104 = .ok (.getfield 21, 3) := by decide +kernel
theorem dX5_sum_107 : decode cX5_sum 107 = .ok (.getfield 175, 3) := by decide +kernel
theorem dX5_sum_110 : decode cX5_sum 110 = .ok (.goto 4, 3) := by decide +kernel
theorem dX5_sum_113 : decode cX5_sum 113 = .ok (.lconst 0, 1) := by decide +kernel
theorem dX5_sum_114 : decode cX5_sum 114 = .ok (.lreturn, 1) := by decide +kernel
theorem dX5_sum_115 : decode cX5_sum 115 = .ok (.lconst 0, 1) := by decide +kernel
theorem dX5_sum_116 : decode cX5_sum 116 = .ok (.lreturn, 1) := by decide +kernel
set_option maxRecDepth 20000 in
theorem ggX5_addSolid_X5_isSize : GoodIn wsX5_addSolid wsX5_isSize := goodIn_r _ [5, 6, 7] (by decide +kernel) (by decide +kernel)
set_option maxRecDepth 20000 in
theorem gX5_addSolid_X5_isSize : GoodIn wsX5_addSolid (va_wsS RX5 47 yX5_isSize wsX5_isSize) := goodIn_app (goodIn_of _ (by decide +kernel)) ggX5_addSolid_X5_isSize
set_option maxRecDepth 20000 in
theorem ggX5_addSolid_X5_isFull : GoodIn wsX5_addSolid wsX5_isFull := goodIn_r _ [11, 12, 13, 14, 15, 4, 16, 17, 18, 19, 20, 21, 22, 1, 23, 24, 25, 26, 27, 28, 29, 30, 31, 32, 33, 34, 35, 36, 37, 38, 39, 40, 41, 42, 43, 44, 45, 90, 91, 92, 93, 94, 95, 96, 97, 98, 99, 100, 101, 102, 103, 104, 105, 106, 107, 108, 109, 110, 111, 112, 113, 114, 115, 116] (by decide +kernel) (by decide +kernel)
set_option maxRecDepth 20000 in
theorem gX5_addSolid_X5_isFull : GoodIn wsX5_addSolid (wsV RX5 77 RX5 yX5_isFull wsX5_isFull) := goodIn_app (goodIn_of _ (by decide +kernel)) ggX5_addSolid_X5_isFull
set_option maxRecDepth 20000 in
theorem ggX5_addSolid_X0_append : GoodIn wsX5_addSolid wsX0_append := goodIn_r _ [49, 28, 50, 51, 52, 53, 26, 54, 55, 56, 57, 58, 59, 60, 61, 62, 63, 64, 65, 66, 67, 68, 69, 70, 71, 72, 73, 74, 75, 76, 77, 107, 108] (by decide +kernel) (by decide +kernel)
set_option maxRecDepth 20000 in
theorem gX5_addSolid_X0_append : GoodIn wsX5_addSolid (wsV RX5 39 RX0 yX0_append wsX0_append) := goodIn_app (goodIn_of _ (by decide +kernel)) ggX5_addSolid_X0_append
set_option maxRecDepth 20000 in
theorem ggX5_addSolid_X0_makeSolid : GoodIn wsX5_addSolid wsX0_makeSolid := goodIn_r _ [81, 82, 83, 84, 26, 85, 86, 87, 88, 89, 28, 50, 107, 108] (by decide +kernel) (by decide +kernel)
set_option maxRecDepth 20000 in
theorem gX5_addSolid_X0_makeSolid : GoodIn wsX5_addSolid (wsV RX5 178 RX0 yX0_makeSolid wsX0_makeSolid) := goodIn_app (goodIn_of _ (by decide +kernel)) ggX5_addSolid_X0_makeSolid
theorem dX5_addSolid_0 : decode cX5_addSolid 0 = .ok (.iload_n 2, 1) := by decide +kernel
theorem dX5_addSolid_1 : decode cX5_addSolid 1 = .ok (.i2l, 1) := by decide +kernel
theorem dX5_addSolid_2 : decode cX5_addSolid 2 = .ok (.invokestatic 47, 3) := by decide +kernel
theorem dX5_addSolid_5 : decode cX5_addSolid 5 = .ok (.ifCond .eq 33, 3) := by decide +kernel
theorem dX5_addSolid_8 : decode cX5_addSolid 8 = .ok (.iload_n 3, 1) := by decide +kernel
theorem dX5_addSolid_9 : decode cX5_addSolid 9 = .ok (.i2l, 1) := by decide +kernel
theorem dX5_addSolid_10 : decode cX5_addSolid 10 = .ok (.invokestatic 47, 3) := by decide +kernel
theorem dX5_addSolid_13 : decode cX5_addSolid 13 = .ok (.ifCond .eq 25, 3) := by decide +kernel
theorem dX5_addSolid_16 : decode cX5_addSolid 16 = .ok (.iload 4, 2) := by decide +kernel
theorem dX5_addSolid_18 : decode cX5_addSolid 18 = .ok (.i2l, 1) := by decide +kernel
theorem dX5_addSolid_19 : decode cX5_addSolid 19 = .ok (.invokestatic 47, 3) := by decide +kernel
theorem dX5_addSolid_22 : decode cX5_addSolid 22 = .ok (.ifCond .eq 16, 3) := by decide +kernel
theorem dX5_addSolid_25 : decode cX5_addSolid 25 = .ok (.iload 5, 2) := by decide +kernel
theorem dX5_addSolid_27 : decode cX5_addSolid 27 = .ok (.i2l, 1) := by decide +kernel
theorem dX5_addSolid_28 : decode cX5_addSolid 28 = .ok (.invokestatic 47, 3) := by decide +kernel
theorem dX5_addSolid_31 : decode cX5_addSolid 31 = .ok (.ifCond .eq 7, 3) := by decide +kernel
theorem dX5_addSolid_34 : decode cX5_addSolid 34 = .ok (.iconst 1, 1) := by decide +kernel
theorem dX5_addSolid_35 : decode cX5_addSolid 35 = .ok (.goto 4, 3) := by decide +kernel
theorem dX5_addSolid_38 : decode cX5_addSolid 38 = .ok (.iconst 0, 1) := by decide +kernel
theorem dX5_addSolid_39 : decode cX5_addSolid 39 = .ok (.istore 6, 2) := by decide +kernel
theorem dX5_addSolid_41 : decode cX5_addSolid 41 = .ok (.iload 6, 2) := by decide +kernel
theorem dX5_addSolid_43 : decode cX5_addSolid 43 = .ok (.ifCond .eq 10, 3) := by decide +kernel
theorem dX5_addSolid_46 : decode cX5_addSolid 46 = .ok (.aload_n 0, 1) := by decide +kernel
theorem dX5_addSolid_47 : decode cX5_addSolid 47 = .ok (.invokevirtual 77, 3) := by decide +kernel
theorem dX5_addSolid_50 : decode cX5_addSolid 50 = .ok (.ifCond .eq 5, 3) := by decide +kernel
theorem dX5_addSolid_53 : decode cX5_addSolid 53 = .ok (.iconst 0, 1) := by decide +kernel
theorem dX5_addSolid_54 : decode cX5_addSolid 54 = .ok (.ireturn, 1) := by decide +kernel
theorem dX5_addSolid_55 : decode cX5_addSolid 55 = .ok (.aload_n 0, 1) := by decide +kernel
theorem dX5_addSolid_56 : decode cX5_addSolid 56 = .ok (.getfield 14, 3) := by decide +kernel
theorem dX5_addSolid_59 : decode cX5_addSolid 59 = .ok (.aload_n 0, 1) := by decide +kernel
theorem dX5_addSolid_60 : decode cX5_addSolid 60 = .ok (.getfield 14, 3) := by decide +kernel
theorem dX5_addSolid_63 : decode cX5_addSolid 63 = .ok (.invokevirtual 39, 3) := by decide +kernel
theorem dX5_addSolid_66 : decode cX5_addSolid 66 = .ok (.iload_n 1, 1) := by decide +kernel
theorem dX5_addSolid_67 : decode cX5_addSolid 67 = .ok (.iload_n 2, 1) := by decide +kernel
theorem dX5_addSolid_68 : decode cX5_addSolid 68 = .ok (.iload_n 3, 1) := by decide +kernel
theorem dX5_addSolid_69 : decode cX5_addSolid 69 = .ok (.iload 4, 2) := by decide +kernel
theorem dX5_addSolid_71 : decode cX5_addSolid 71 = .ok (.iload 5, 2) := by decide +kernel
theorem dX5_addSolid_73 : decode cX5_addSolid 73 = .ok (.invokevirtual 178, 3) := by decide +kernel
theorem dX5_addSolid_76 : decode cX5_addSolid 76 = .ok (.iconst 1, 1) := by decide +kernel
theorem dX5_addSolid_77 : decode cX5_addSolid 77 = .ok (.ireturn, 1) := by decide +kernel
set_option maxRecDepth 20000 in
theorem ggX5_isFull_X5_onPage : GoodIn wsX5_isFull wsX5_onPage := goodIn_r _ [6, 7, 8, 37, 38, 39, 40, 41, 42, 43, 44, 45, 46, 47, 48, 49, 50, 51, 52, 53] (by decide +kernel) (by decide +kernel)
set_option maxRecDepth 20000 in
theorem gX5_isFull_X5_onPage : GoodIn wsX5_isFull (wsV RX5 148 RX5 yX5_onPage wsX5_onPage) := goodIn_app (goodIn_of _ (by decide +kernel)) ggX5_isFull_X5_onPage
set_option maxRecDepth 20000 in
theorem ggX5_isFull_X5_toCome : GoodIn wsX5_isFull wsX5_toCome := goodIn_r _ [12, 13, 8, 14, 15, 16, 17, 18, 19, 37, 38, 39, 40, 41, 42, 43, 44, 45, 46, 47, 54, 55] (by decide +kernel) (by decide +kernel)
set_option maxRecDepth 20000 in
theorem gX5_isFull_X5_toCome : GoodIn wsX5_isFull (wsV RX5 145 RX5 yX5_toCome wsX5_toCome) := goodIn_app (goodIn_of _ (by decide +kernel)) ggX5_isFull_X5_toCome
set_option maxRecDepth 20000 in
theorem ggX5_isFull_X3_held : GoodIn wsX5_isFull wsX3_held := goodIn_r _ [24, 25, 26, 27, 28, 23, 29, 30, 31, 32, 33, 34, 35, 36, 15, 16, 17, 18, 19, 56, 57, 58, 59, 60, 61, 62, 63, 54, 55] (by decide +kernel) (by decide +kernel)
set_option maxRecDepth 20000 in
theorem gX5_isFull_X3_held : GoodIn wsX5_isFull (wsV RX5 182 RX3 yX3_held wsX3_held) := goodIn_app (goodIn_of _ (by decide +kernel)) ggX5_isFull_X3_held
theorem dX5_isFull_0 : decode cX5_isFull 0 = .ok (.aload_n 0, 1) := by decide +kernel
theorem dX5_isFull_1 : decode cX5_isFull 1 = .ok (.invokevirtual 148, 3) := by decide +kernel
theorem dX5_isFull_4 : decode cX5_isFull 4 = .ok (.aload_n 0, 1) := by decide +kernel
theorem dX5_isFull_5 : decode cX5_isFull 5 = .ok (.invokevirtual 145, 3) := by decide +kernel
theorem dX5_isFull_8 : decode cX5_isFull 8 = .ok (.iadd, 1) := by decide +kernel
theorem dX5_isFull_9 : decode cX5_isFull 9 = .ok (.aload_n 0, 1) := by decide +kernel
theorem dX5_isFull_10 : decode cX5_isFull 10 = .ok (.getfield 28, 3) := by decide +kernel
theorem dX5_isFull_13 : decode cX5_isFull 13 = .ok (.invokevirtual 182, 3) := by decide +kernel
theorem dX5_isFull_16 : decode cX5_isFull 16 = .ok (.iadd, 1) := by decide +kernel
theorem dX5_isFull_17 : decode cX5_isFull 17 = .ok (.sipush 4000, 3) := by decide +kernel
theorem dX5_isFull_20 : decode cX5_isFull 20 = .ok (.if_icmp .lt 7, 3) := by decide +kernel
theorem dX5_isFull_23 : decode cX5_isFull 23 = .ok (.iconst 1, 1) := by decide +kernel
theorem dX5_isFull_24 : decode cX5_isFull 24 = .ok (.goto 4, 3) := by decide +kernel
theorem dX5_isFull_27 : decode cX5_isFull 27 = .ok (.iconst 0, 1) := by decide +kernel
theorem dX5_isFull_28 : decode cX5_isFull 28 = .ok (.ireturn, 1) := by decide +kernel
set_option maxRecDepth 20000 in
theorem ggX5_toCome_X0_size : GoodIn wsX5_toCome wsX0_size := goodIn_r _ [7, 8, 20, 21] (by decide +kernel) (by decide +kernel)
set_option maxRecDepth 20000 in
theorem gX5_toCome_X0_size : GoodIn wsX5_toCome (wsV RX5 89 RX0 yX0_size wsX0_size) := goodIn_app (goodIn_of _ (by decide +kernel)) ggX5_toCome_X0_size
theorem dX5_toCome_0 : decode cX5_toCome 0 = .ok (.aload_n 0, 1) := by decide +kernel
theorem dX5_toCome_1 : decode cX5_toCome 1 = .ok (.getfield 14, 3) := by decide +kernel
theorem dX5_toCome_4 : decode cX5_toCome 4 = .ok (.invokevirtual 89, 3) := by decide +kernel
theorem dX5_toCome_7 : decode cX5_toCome 7 = .ok (.aload_n 0, 1) := by decide +kernel
theorem dX5_toCome_8 : decode cX5_toCome 8 = .ok (.getfield 43, 3) := by decide +kernel
theorem dX5_toCome_11 : decode cX5_toCome 11 = .ok (.isub, 1) := by decide +kernel
theorem dX5_toCome_12 : decode cX5_toCome 12 = .ok (.ireturn, 1) := by decide +kernel
theorem dX5_onPage_0 : decode cX5_onPage 0 = .ok (.aload_n 0, 1) := by decide +kernel
theorem dX5_onPage_1 : decode cX5_onPage 1 = .ok (.getfield 21, 3) := by decide +kernel
theorem dX5_onPage_4 : decode cX5_onPage 4 = .ok (.getfield 154, 3) := by decide +kernel
theorem dX5_onPage_7 : decode cX5_onPage 7 = .ok (.ifCond .eq 18, 3) := by decide +kernel
theorem dX5_onPage_10 : decode cX5_onPage 10 = .ok (.aload_n 0, 1) := by decide +kernel
theorem dX5_onPage_11 : decode cX5_onPage 11 = .ok (.getfield 43, 3) := by decide +kernel
theorem dX5_onPage_14 : decode cX5_onPage 14 = .ok (.aload_n 0, 1) := by decide +kernel
theorem dX5_onPage_15 : decode cX5_onPage 15 = .ok (.getfield 21, 3) := by decide +kernel
theorem dX5_onPage_18 : decode cX5_onPage 18 = .ok (.getfield 185, 3) := by decide +kernel
theorem dX5_onPage_21 : decode cX5_onPage 21 = .ok (.isub, 1) := by decide +kernel
theorem dX5_onPage_22 : decode cX5_onPage 22 = .ok (.goto 4, 3) := by decide +kernel
theorem dX5_onPage_25 : decode cX5_onPage 25 = .ok (.iconst 0, 1) := by decide +kernel
theorem dX5_onPage_26 : decode cX5_onPage 26 = .ok (.ireturn, 1) := by decide +kernel
set_option maxRecDepth 20000 in
theorem ggX5_fillPage_X5_toCome : GoodIn wsX5_fillPage wsX5_toCome := goodIn_r _ [8, 1, 2, 9, 10, 11, 12, 13, 14, 143, 144, 145, 146, 147, 148, 149, 150, 151, 152, 153, 160, 161] (by decide +kernel) (by decide +kernel)
set_option maxRecDepth 20000 in
theorem gX5_fillPage_X5_toCome : GoodIn wsX5_fillPage (wsV RX5 145 RX5 yX5_toCome wsX5_toCome) := goodIn_app (goodIn_of _ (by decide +kernel)) ggX5_fillPage_X5_toCome
set_option maxRecDepth 20000 in
theorem ggX5_fillPage_X0_at : GoodIn wsX5_fillPage wsX0_at := goodIn_r _ [18, 14, 19, 160, 161] (by decide +kernel) (by decide +kernel)
set_option maxRecDepth 20000 in
theorem gX5_fillPage_X0_at : GoodIn wsX5_fillPage (wsV RX5 138 RX0 yX0_at wsX0_at) := goodIn_app (goodIn_of _ (by decide +kernel)) ggX5_fillPage_X0_at
set_option maxRecDepth 20000 in
theorem ggX5_fillPage_X5_isSolid : GoodIn wsX5_fillPage wsX5_isSolid := goodIn_r _ [22] (by decide +kernel) (by decide +kernel)
set_option maxRecDepth 20000 in
theorem gX5_fillPage_X5_isSolid : GoodIn wsX5_fillPage (va_wsS RX5 188 yX5_isSolid wsX5_isSolid) := goodIn_app (goodIn_of _ (by decide +kernel)) ggX5_fillPage_X5_isSolid
set_option maxRecDepth 20000 in
theorem ggX5_fillPage_X5_beginPage : GoodIn wsX5_fillPage wsX5_beginPage := goodIn_r _ [26, 2, 27, 1, 28, 29, 30, 31, 32, 33, 34, 3, 35, 36, 15, 16, 17, 12, 18, 14, 19, 37, 38, 39, 40, 41, 42, 43, 44, 45, 46, 47, 48, 49, 50, 51, 52, 53, 54, 55, 56, 57, 58, 59, 60, 61, 62, 63, 64, 65, 66, 67, 68, 69, 70, 71, 72, 73, 74, 75, 76, 77, 78, 79, 80, 81, 82, 83, 84, 85, 86, 87, 88, 89, 90, 91, 143, 144, 145, 146, 147, 148, 149, 150, 151, 152, 153, 154, 155, 156, 157, 158, 159, 160, 161, 162, 163, 164, 165, 166, 167] (by decide +kernel) (by decide +kernel)
set_option maxRecDepth 20000 in
theorem gX5_fillPage_X5_beginPage : GoodIn wsX5_fillPage (wsV RX5 192 RX5 yX5_beginPage wsX5_beginPage) := goodIn_app (goodIn_of _ (by decide +kernel)) ggX5_fillPage_X5_beginPage
set_option maxRecDepth 20000 in
theorem ggX5_fillPage_X5_isBreak : GoodIn wsX5_fillPage wsX5_isBreak := goodIn_r _ [95, 1, 2, 15, 16, 17, 12, 18, 14, 19, 20, 21, 7, 22, 4, 5, 6, 8, 9, 10, 11, 13, 143, 144, 145, 146, 147, 148, 149, 150, 151, 152, 153, 160, 161] (by decide +kernel) (by decide +kernel)
set_option maxRecDepth 20000 in
theorem gX5_fillPage_X5_isBreak : GoodIn wsX5_fillPage (wsV RX5 195 RX5 yX5_isBreak wsX5_isBreak) := goodIn_app (goodIn_of _ (by decide +kernel)) ggX5_fillPage_X5_isBreak
set_option maxRecDepth 20000 in
theorem ggX5_fillPage_X5_endsAtBreak : GoodIn wsX5_fillPage wsX5_endsAtBreak := goodIn_r _ [99, 1, 2, 3, 15, 16, 17, 12, 18, 14, 19, 100, 101, 102, 7, 103, 104, 105, 106, 52, 107, 108, 109, 110, 111, 112, 113, 114, 56, 57, 115, 116, 117, 61, 118, 65, 66, 119, 120, 121, 122, 123, 124, 125, 126, 127, 128, 129, 63, 130, 131, 132, 133, 134, 135, 136, 137, 138, 139, 140, 141, 142, 143, 144, 145, 146, 147, 148, 149, 150, 151, 152, 153, 160, 161, 154, 155, 156, 157, 158, 159, 162, 163, 164, 165, 166, 167] (by decide +kernel) (by decide +kernel)
set_option maxRecDepth 20000 in
theorem gX5_fillPage_X5_endsAtBreak : GoodIn wsX5_fillPage (wsV RX5 198 RX5 yX5_endsAtBreak wsX5_endsAtBreak) := goodIn_app (goodIn_of _ (by decide +kernel)) ggX5_fillPage_X5_endsAtBreak
set_option maxRecDepth 20000 in
theorem ggX5_fillPage_X4_take : GoodIn wsX5_fillPage wsX4_take := goodIn_r _ [76, 66, 65, 77, 16, 17, 12, 18, 14, 19, 78, 79, 80, 61, 81, 68, 82, 83, 30, 84, 67, 85, 86, 87, 88, 89, 90, 91, 64, 63, 162, 163, 164, 165, 166, 167, 160, 161] (by decide +kernel) (by decide +kernel)
set_option maxRecDepth 20000 in
theorem gX5_fillPage_X4_take : GoodIn wsX5_fillPage (wsV RX5 201 RX4 yX4_take wsX4_take) := goodIn_app (goodIn_of _ (by decide +kernel)) ggX5_fillPage_X4_take
theorem dX5_fillPage_0 : decode cX5_fillPage 0 = .ok (.aload_n 0, 1) := by decide +kernel
theorem dX5_fillPage_1 : decode cX5_fillPage 1 = .ok (.invokevirtual 145, 3) := by decide +kernel
theorem dX5_fillPage_4 : decode cX5_fillPage 4 = .ok (.istore_n 1, 1) := by decide +kernel
theorem dX5_fillPage_5 : decode cX5_fillPage 5 = .ok (.iconst 0, 1) := by decide +kernel
theorem dX5_fillPage_6 : decode cX5_fillPage 6 = .ok (.istore_n 2, 1) := by decide +kernel
theorem dX5_fillPage_7 : decode cX5_fillPage 7 = .ok (.iload_n 2, 1) := by decide +kernel
theorem dX5_fillPage_8 : decode cX5_fillPage 8 = .ok (.iload_n 1, 1) := by decide +kernel
theorem dX5_fillPage_9 : decode cX5_fillPage 9 = .ok (.if_icmp .ge 131, 3) := by decide +kernel
theorem dX5_fillPage_12 : decode cX5_fillPage 12 = .ok (.aload_n 0, 1) := by decide +kernel
theorem dX5_fillPage_13 : decode cX5_fillPage 13 = .ok (.getfield 14, 3) := by decide +kernel
theorem dX5_fillPage_16 : decode cX5_fillPage 16 = .ok (.aload_n 0, 1) := by decide +kernel
theorem dX5_fillPage_17 : decode cX5_fillPage 17 = .ok (.getfield 43, 3) := by decide +kernel
theorem dX5_fillPage_20 : decode cX5_fillPage 20 = .ok (.iconst 0, 1) := by decide +kernel
theorem dX5_fillPage_21 : decode cX5_fillPage 21 = .ok (.invokevirtual 138, 3) := by decide +kernel
theorem dX5_fillPage_24 : decode cX5_fillPage 24 = .ok (.istore_n 3, 1) := by decide +kernel
theorem dX5_fillPage_25 : decode cX5_fillPage 25 = .ok (.iload_n 3, 1) := by decide +kernel
theorem dX5_fillPage_26 : decode cX5_fillPage 26 = .ok (.bipush 6, 2) := by decide +kernel
theorem dX5_fillPage_28 : decode cX5_fillPage 28 = .ok (.if_icmp .ne 13, 3) := by decide +kernel
theorem dX5_fillPage_31 : decode cX5_fillPage 31 = .ok (.aload_n 0, 1) := by decide +kernel
theorem dX5_fillPage_32 : decode cX5_fillPage 32 = .ok (.invokevirtual 145, 3) := by decide +kernel
theorem dX5_fillPage_35 : decode cX5_fillPage 35 = .ok (.iconst 1, 1) := by decide +kernel
theorem dX5_fillPage_36 : decode cX5_fillPage 36 = .ok (.if_icmp .ne 5, 3) := by decide +kernel
theorem dX5_fillPage_39 : decode cX5_fillPage 39 = .ok (.iconst 0, 1) := by decide +kernel
theorem dX5_fillPage_40 : decode cX5_fillPage 40 = .ok (.ireturn, 1) := by decide +kernel
theorem dX5_fillPage_41 : decode cX5_fillPage 41 = .ok (.aload_n 0, 1) := by decide +kernel
theorem dX5_fillPage_42 : decode cX5_fillPage 42 = .ok (.getfield 21, 3) := by decide +kernel
theorem dX5_fillPage_45 : decode cX5_fillPage 45 = .ok (.getfield 154, 3) := by decide +kernel
theorem dX5_fillPage_48 : decode cX5_fillPage 48 = .ok (.ifCond .ne 23, 3) := by decide +kernel
theorem dX5_fillPage_51 : decode cX5_fillPage 51 = .ok (.iload_n 3, 1) := by decide +kernel
theorem dX5_fillPage_52 : decode cX5_fillPage 52 = .ok (.invokestatic 188, 3) := by decide +kernel
theorem dX5_fillPage_55 : decode cX5_fillPage 55 = .ok (.ifCond .ne 16, 3) := by decide +kernel
theorem dX5_fillPage_58 : decode cX5_fillPage 58 = .ok (.aload_n 0, 1) := by decide +kernel
theorem dX5_fillPage_59 : decode cX5_fillPage 59 = .ok (.dup, 1) := by decide +kernel
theorem dX5_fillPage_60 : decode cX5_fillPage 60 = .ok (.getfield 43, 3) := by decide +kernel
theorem dX5_fillPage_63 : decode cX5_fillPage 63 = .ok (.iconst 1, 1) := by decide +kernel
theorem dX5_fillPage_64 : decode cX5_fillPage 64 = .ok (.iadd, 1) := by decide +kernel
theorem dX5_fillPage_65 : decode cX5_fillPage 65 = .ok (.putfield 43, 3) := by decide +kernel
theorem dX5_fillPage_68 : decode cX5_fillPage 68 = .ok (.goto 66, 3) := by decide +kernel
theorem dX5_fillPage_71 : decode cX5_fillPage 71 = .ok (.aload_n 0, 1) := by decide +kernel
theorem dX5_fillPage_72 : decode cX5_fillPage 72 = .ok (.getfield 21, 3) := by decide +kernel
theorem dX5_fillPage_75 : decode cX5_fillPage 75 = .ok (.getfield 154, 3) := by decide +kernel
theorem dX5_fillPage_78 : decode cX5_fillPage 78 = .ok (.ifCond .ne 10, 3) := by decide +kernel
theorem dX5_fillPage_81 : decode cX5_fillPage 81 = .ok (.aload_n 0, 1) := by decide +kernel
theorem dX5_fillPage_82 : decode cX5_fillPage 82 = .ok (.invokevirtual 192, 3) := by decide +kernel
theorem dX5_fillPage_85 : decode cX5_fillPage 85 = .ok (.goto 21, 3) := by decide +kernel
theorem dX5_fillPage_88 : decode cX5_fillPage 88 = .ok (.aload_n 0, 1) := by decide +kernel
theorem dX5_fillPage_89 : decode cX5_fillPage 89 = .ok (.iload_n 3, 1) := by decide +kernel
theorem dX5_fillPage_90 : decode cX5_fillPage 90 = .ok (.invokevirtual 195, 3) := by decide +kernel
theorem dX5_fillPage_93 : decode cX5_fillPage 93 = .ok (.ifCond .eq 13, 3) := by decide +kernel
theorem dX5_fillPage_96 : decode cX5_fillPage 96 = .ok (.aload_n 0, 1) := by decide +kernel
theorem dX5_fillPage_97 : decode cX5_fillPage 97 = .ok (.iload_n 3, 1) := by decide +kernel
theorem dX5_fillPage_98 : decode cX5_fillPage 98 = .ok (.invokevirtual 198, 3) := by decide +kernel
theorem dX5_fillPage_101 : decode cX5_fillPage 101 = .ok (.ifCond .eq 5, 3) := by decide +kernel
theorem dX5_fillPage_104 : decode cX5_fillPage 104 = .ok (.iconst 1, 1) := by decide +kernel
theorem dX5_fillPage_105 : decode cX5_fillPage 105 = .ok (.ireturn, 1) := by decide +kernel
theorem dX5_fillPage_106 : decode cX5_fillPage 106 = .ok (.aload_n 0, 1) := by decide +kernel
theorem dX5_fillPage_107 : decode cX5_fillPage 107 = .ok (.getfield 21, 3) := by decide +kernel
theorem dX5_fillPage_110 : decode cX5_fillPage 110 = .ok (.getfield 158, 3) := by decide +kernel
theorem dX5_fillPage_113 : decode cX5_fillPage 113 = .ok (.aload_n 0, 1) := by decide +kernel
theorem dX5_fillPage_114 : decode cX5_fillPage 114 = .ok (.getfield 14, 3) := by decide +kernel
theorem dX5_fillPage_117 : decode cX5_fillPage 117 = .ok (.aload_n 0, 1) := by decide +kernel
theorem dX5_fillPage_118 : decode cX5_fillPage 118 = .ok (.getfield 43, 3) := by decide +kernel
theorem dX5_fillPage_121 : decode cX5_fillPage 121 = .ok (.invokevirtual 201, 3) := by decide +kernel
theorem dX5_fillPage_124 : decode cX5_fillPage 124 = .ok (.aload_n 0, 1) := by decide +kernel
theorem dX5_fillPage_125 : decode cX5_fillPage 125 = .ok (.dup, 1) := by decide +kernel
theorem dX5_fillPage_126 : decode cX5_fillPage 126 = .ok (.getfield 43, 3) := by decide +kernel
theorem dX5_fillPage_129 : decode cX5_fillPage 129 = .ok (.iconst 1, 1) := by decide +kernel
theorem dX5_fillPage_130 : decode cX5_fillPage 130 = .ok (.iadd, 1) := by decide +kernel
theorem dX5_fillPage_131 : decode cX5_fillPage 131 = .ok (.putfield 43, 3) := by decide +kernel
theorem dX5_fillPage_134 : decode cX5_fillPage 134 = .ok (.iinc 2 1, 3) := by decide +kernel
theorem dX5_fillPage_137 : decode cX5_fillPage 137 = .ok (.goto (-130), 3) := by decide +kernel
theorem dX5_fillPage_140 : decode cX5_fillPage 140 = .ok (.iconst 0, 1) := by decide +kernel
theorem dX5_fillPage_141 : decode cX5_fillPage 141 = .ok (.ireturn, 1) := by decide +kernel
set_option maxRecDepth 20000 in
theorem ggX5_beginPage_X0_at : GoodIn wsX5_beginPage wsX0_at := goodIn_r _ [18, 19, 20, 93, 94] (by decide +kernel) (by decide +kernel)
set_option maxRecDepth 20000 in
theorem gX5_beginPage_X0_at : GoodIn wsX5_beginPage (wsV RX5 138 RX0 yX0_at wsX0_at) := goodIn_app (goodIn_of _ (by decide +kernel)) ggX5_beginPage_X0_at
set_option maxRecDepth 20000 in
theorem ggX5_beginPage_X0_makeGlue : GoodIn wsX5_beginPage wsX0_makeGlue := goodIn_r _ [24, 25, 26, 27, 17, 28, 29, 30, 31, 32, 19, 20, 93, 94] (by decide +kernel) (by decide +kernel)
set_option maxRecDepth 20000 in
theorem gX5_beginPage_X0_makeGlue : GoodIn wsX5_beginPage (wsV RX5 81 RX0 yX0_makeGlue wsX0_makeGlue) := goodIn_app (goodIn_of _ (by decide +kernel)) ggX5_beginPage_X0_makeGlue
set_option maxRecDepth 20000 in
theorem ggX5_beginPage_X2_begin : GoodIn wsX5_beginPage wsX2_begin := goodIn_r _ [37, 38, 39, 40, 41, 42, 43, 44, 45, 46, 47, 48, 49, 50, 51, 52, 53, 54, 55, 56, 87, 88, 89, 90, 91, 92, 95, 96, 97, 98, 99, 100] (by decide +kernel) (by decide +kernel)
set_option maxRecDepth 20000 in
theorem gX5_beginPage_X2_begin : GoodIn wsX5_beginPage (wsV RX5 210 RX2 yX2_begin wsX2_begin) := goodIn_app (goodIn_of _ (by decide +kernel)) ggX5_beginPage_X2_begin
set_option maxRecDepth 20000 in
theorem ggX5_beginPage_X4_take : GoodIn wsX5_beginPage wsX4_take := goodIn_r _ [60, 50, 49, 61, 15, 16, 17, 18, 19, 20, 62, 63, 64, 45, 65, 52, 66, 67, 6, 68, 51, 69, 70, 71, 72, 73, 74, 75, 48, 47, 95, 96, 97, 98, 99, 100, 93, 94] (by decide +kernel) (by decide +kernel)
set_option maxRecDepth 20000 in
theorem gX5_beginPage_X4_take : GoodIn wsX5_beginPage (wsV RX5 201 RX4 yX4_take wsX4_take) := goodIn_app (goodIn_of _ (by decide +kernel)) ggX5_beginPage_X4_take
theorem dX5_beginPage_0 : decode cX5_beginPage 0 = .ok (.aload_n 0, 1) := by decide +kernel
theorem dX5_beginPage_1 : decode cX5_beginPage 1 = .ok (.getfield 43, 3) := by decide +kernel
theorem dX5_beginPage_4 : decode cX5_beginPage 4 = .ok (.iconst 1, 1) := by decide +kernel
theorem dX5_beginPage_5 : decode cX5_beginPage 5 = .ok (.isub, 1) := by decide +kernel
theorem dX5_beginPage_6 : decode cX5_beginPage 6 = .ok (.istore_n 1, 1) := by decide +kernel
theorem dX5_beginPage_7 : decode cX5_beginPage 7 = .ok (.iconst 0, 1) := by decide +kernel
theorem dX5_beginPage_8 : decode cX5_beginPage 8 = .ok (.aload_n 0, 1) := by decide +kernel
theorem dX5_beginPage_9 : decode cX5_beginPage 9 = .ok (.getfield 61, 3) := by decide +kernel
theorem dX5_beginPage_12 : decode cX5_beginPage 12 = .ok (.aload_n 0, 1) := by decide +kernel
theorem dX5_beginPage_13 : decode cX5_beginPage 13 = .ok (.getfield 14, 3) := by decide +kernel
theorem dX5_beginPage_16 : decode cX5_beginPage 16 = .ok (.aload_n 0, 1) := by decide +kernel
theorem dX5_beginPage_17 : decode cX5_beginPage 17 = .ok (.getfield 43, 3) := by decide +kernel
theorem dX5_beginPage_20 : decode cX5_beginPage 20 = .ok (.iconst 2, 1) := by decide +kernel
theorem dX5_beginPage_21 : decode cX5_beginPage 21 = .ok (.invokevirtual 138, 3) := by decide +kernel
theorem dX5_beginPage_24 : decode cX5_beginPage 24 = .ok (.isub, 1) := by decide +kernel
theorem dX5_beginPage_25 : decode cX5_beginPage 25 = .ok (.invokestatic 205, 3) := by decide +kernel
theorem dX5_beginPage_28 : decode cX5_beginPage 28 = .ok (.istore_n 2, 1) := by decide +kernel
theorem dX5_beginPage_29 : decode cX5_beginPage 29 = .ok (.aload_n 0, 1) := by decide +kernel
theorem dX5_beginPage_30 : decode cX5_beginPage 30 = .ok (.getfield 14, 3) := by decide +kernel
theorem dX5_beginPage_33 : decode cX5_beginPage 33 = .ok (.iload_n 1, 1) := by decide +kernel
theorem dX5_beginPage_34 : decode cX5_beginPage 34 = .ok (.iload_n 2, 1) := by decide +kernel
theorem dX5_beginPage_35 : decode cX5_beginPage 35 = .ok (.aload_n 0, 1) := by decide +kernel
theorem dX5_beginPage_36 : decode cX5_beginPage 36 = .ok (.getfield 64, 3) := by decide +kernel
theorem dX5_beginPage_39 : decode cX5_beginPage 39 = .ok (.aload_n 0, 1) := by decide +kernel
theorem dX5_beginPage_40 : decode cX5_beginPage 40 = .ok (.getfield 67, 3) := by decide +kernel
theorem dX5_beginPage_43 : decode cX5_beginPage 43 = .ok (.aload_n 0, 1) := by decide +kernel
theorem dX5_beginPage_44 : decode cX5_beginPage 44 = .ok (.getfield 70, 3) := by decide +kernel
theorem dX5_beginPage_47 : decode cX5_beginPage 47 = .ok (.invokevirtual 81, 3) := by decide +kernel
theorem dX5_beginPage_50 : decode cX5_beginPage 50 = .ok (.aload_n 0, 1) := by decide +kernel
theorem dX5_beginPage_51 : decode cX5_beginPage 51 = .ok (.getfield 21, 3) := by decide +kernel
theorem dX5_beginPage_54 : decode cX5_beginPage 54 = .ok (.iload_n 1, 1) := by decide +kernel
theorem dX5_beginPage_55 : decode cX5_beginPage 55 = .ok (.aload_n 0, 1) := by decide +kernel
theorem dX5_beginPage_56 : decode cX5_beginPage 56 = .ok (.getfield 51, 3) := by decide +kernel
theorem dX5_beginPage_59 : decode cX5_beginPage 59 = .ok (.aload_n 0, 1) := by decide +kernel
theorem dX5_beginPage_60 : decode cX5_beginPage 60 = .ok (.getfield 54, 3) := by decide +kernel
theorem dX5_beginPage_63 : decode cX5_beginPage 63 = .ok (.invokevirtual 210, 3) := by decide +kernel
theorem dX5_beginPage_66 : decode cX5_beginPage 66 = .ok (.aload_n 0, 1) := by decide +kernel
theorem dX5_beginPage_67 : decode cX5_beginPage 67 = .ok (.getfield 21, 3) := by decide +kernel
theorem dX5_beginPage_70 : decode cX5_beginPage 70 = .ok (.getfield 158, 3) := by decide +kernel
theorem dX5_beginPage_73 : decode cX5_beginPage 73 = .ok (.aload_n 0, 1) := by decide +kernel
theorem dX5_beginPage_74 : decode cX5_beginPage 74 = .ok (.getfield 14, 3) := by decide +kernel
theorem dX5_beginPage_77 : decode cX5_beginPage 77 = .ok (.iload_n 1, 1) := by decide +kernel
theorem dX5_beginPage_78 : decode cX5_beginPage 78 = .ok (.invokevirtual 201, 3) := by decide +kernel
theorem dX5_beginPage_81 : decode cX5_beginPage 81 = .ok (.return_, 1) := by decide +kernel
set_option maxRecDepth 20000 in
theorem ggX5_isBreak_X0_at : GoodIn wsX5_isBreak wsX0_at := goodIn_r _ [7, 8, 9, 33, 34] (by decide +kernel) (by decide +kernel)
set_option maxRecDepth 20000 in
theorem gX5_isBreak_X0_at : GoodIn wsX5_isBreak (wsV RX5 138 RX0 yX0_at wsX0_at) := goodIn_app (goodIn_of _ (by decide +kernel)) ggX5_isBreak_X0_at
set_option maxRecDepth 20000 in
theorem ggX5_isBreak_X5_isSolid : GoodIn wsX5_isBreak wsX5_isSolid := goodIn_r _ [13] (by decide +kernel) (by decide +kernel)
set_option maxRecDepth 20000 in
theorem gX5_isBreak_X5_isSolid : GoodIn wsX5_isBreak (va_wsS RX5 188 yX5_isSolid wsX5_isSolid) := goodIn_app (goodIn_of _ (by decide +kernel)) ggX5_isBreak_X5_isSolid
set_option maxRecDepth 20000 in
theorem ggX5_isBreak_X5_toCome : GoodIn wsX5_isBreak wsX5_toCome := goodIn_r _ [17, 1, 2, 18, 19, 20, 6, 21, 8, 22, 23, 24, 25, 26, 27, 28, 29, 30, 31, 32, 33, 34] (by decide +kernel) (by decide +kernel)
set_option maxRecDepth 20000 in
theorem gX5_isBreak_X5_toCome : GoodIn wsX5_isBreak (wsV RX5 145 RX5 yX5_toCome wsX5_toCome) := goodIn_app (goodIn_of _ (by decide +kernel)) ggX5_isBreak_X5_toCome
theorem dX5_isBreak_0 : decode cX5_isBreak 0 = .ok (.iload_n 1, 1) := by decide +kernel
theorem dX5_isBreak_1 : decode cX5_isBreak 1 = .ok (.tableswitch 101 5 7 #[27, 45, 77], 27) := by decide +kernel
theorem dX5_isBreak_28 : decode cX5_isBreak 28 = .ok (.aload_n 0, 1) := by decide +kernel
theorem dX5_isBreak_29 : decode cX5_isBreak 29 = .ok (.getfield 14, 3) := by decide +kernel
theorem dX5_isBreak_32 : decode cX5_isBreak 32 = .ok (.aload_n 0, 1) := by decide +kernel
theorem dX5_isBreak_33 : decode cX5_isBreak 33 = .ok (.getfield 43, 3) := by decide +kernel
theorem dX5_isBreak_36 : decode cX5_isBreak 36 = .ok (.iconst 1, 1) := by decide +kernel
theorem dX5_isBreak_37 : decode cX5_isBreak 37 = .ok (.isub, 1) := by decide +kernel
theorem dX5_isBreak_38 : decode cX5_isBreak 38 = .ok (.iconst 0, 1) := by decide +kernel
theorem dX5_isBreak_39 : decode cX5_isBreak 39 = .ok (.invokevirtual 138, 3) := by decide +kernel
theorem dX5_isBreak_42 : decode cX5_isBreak 42 = .ok (.invokestatic 188, 3) := by decide +kernel
theorem dX5_isBreak_45 : decode cX5_isBreak 45 = .ok (.ireturn, 1) := by decide +kernel
theorem dX5_isBreak_46 : decode cX5_isBreak 46 = .ok (.aload_n 0, 1) := by decide +kernel
theorem dX5_isBreak_47 : decode cX5_isBreak 47 = .ok (.invokevirtual 145, 3) := by decide +kernel
theorem dX5_isBreak_50 : decode cX5_isBreak 50 = .ok (.iconst 1, 1) := by decide +kernel
theorem dX5_isBreak_51 : decode cX5_isBreak 51 = .ok (.if_icmp .le 25, 3) := by decide +kernel
theorem dX5_isBreak_54 : decode cX5_isBreak 54 = .ok (.aload_n 0, 1) := by decide +kernel
theorem dX5_isBreak_55 : decode cX5_isBreak 55 = .ok (.getfield 14, 3) := by decide +kernel
theorem dX5_isBreak_58 : decode cX5_isBreak 58 = .ok (.aload_n 0, 1) := by decide +kernel
theorem dX5_isBreak_59 : decode cX5_isBreak 59 = .ok (.getfield 43, 3) := by decide +kernel
theorem dX5_isBreak_62 : decode cX5_isBreak 62 = .ok (.iconst 1, 1) := by decide +kernel
theorem dX5_isBreak_63 : decode cX5_isBreak 63 = .ok (.iadd, 1) := by decide +kernel
theorem dX5_isBreak_64 : decode cX5_isBreak 64 = .ok (.iconst 0, 1) := by decide +kernel
theorem dX5_isBreak_65 : decode cX5_isBreak 65 = .ok (.invokevirtual 138, 3) := by decide +kernel
theorem dX5_isBreak_68 : decode cX5_isBreak 68 = .ok (.iconst 5, 1) := by decide +kernel
theorem dX5_isBreak_69 : decode cX5_isBreak 69 = .ok (.if_icmp .ne 7, 3) := by decide +kernel
theorem dX5_isBreak_72 : decode cX5_isBreak 72 = .ok (.iconst 1, 1) := by decide +kernel
theorem dX5_isBreak_73 : decode cX5_isBreak 73 = .ok (.goto 4, 3) := by decide +kernel
theorem dX5_isBreak_76 : decode cX5_isBreak 76 = .ok (.iconst 0, 1) := by decide +kernel
theorem dX5_isBreak_77 : decode cX5_isBreak 77 = .ok (.ireturn, 1) := by decide +kernel
theorem dX5_isBreak_78 : decode cX5_isBreak 78 = .ok (.aload_n 0, 1) := by decide +kernel
theorem dX5_isBreak_79 : decode cX5_isBreak 79 = .ok (.getfield 14, 3) := by decide +kernel
theorem dX5_isBreak_82 : decode cX5_isBreak 82 = .ok (.aload_n 0, 1) := by decide +kernel
theorem dX5_isBreak_83 : decode cX5_isBreak 83 = .ok (.getfield 43, 3) := by decide +kernel
theorem dX5_isBreak_86 : decode cX5_isBreak 86 = .ok (.iconst 1, 1) := by decide +kernel
theorem dX5_isBreak_87 : decode cX5_isBreak 87 = .ok (.invokevirtual 138, 3) := by decide +kernel
theorem dX5_isBreak_90 : decode cX5_isBreak 90 = .ok (.sipush 10000, 3) := by decide +kernel
theorem dX5_isBreak_93 : decode cX5_isBreak 93 = .ok (.if_icmp .ge 7, 3) := by decide +kernel
theorem dX5_isBreak_96 : decode cX5_isBreak 96 = .ok (.iconst 1, 1) := by decide +kernel
theorem dX5_isBreak_97 : decode cX5_isBreak 97 = .ok (.goto 4, 3) := by decide +kernel
theorem dX5_isBreak_100 : decode cX5_isBreak 100 = .ok (.iconst 0, 1) := by decide +kernel
theorem dX5_isBreak_101 : decode cX5_isBreak 101 = .ok (.ireturn, 1) := by decide +kernel
theorem dX5_isBreak_102 : decode cX5_isBreak 102 = .ok (.iconst 0, 1) := by decide +kernel
theorem dX5_isBreak_103 : decode cX5_isBreak 103 = .ok (.ireturn, 1) := by decide +kernel
set_option maxRecDepth 20000 in
theorem ggX5_endsAtBreak_X0_at : GoodIn wsX5_endsAtBreak wsX0_at := goodIn_r _ [8, 9, 10, 73, 74] (by decide +kernel) (by decide +kernel)
set_option maxRecDepth 20000 in
theorem gX5_endsAtBreak_X0_at : GoodIn wsX5_endsAtBreak (wsV RX5 138 RX0 yX0_at wsX0_at) := goodIn_app (goodIn_of _ (by decide +kernel)) ggX5_endsAtBreak_X0_at
set_option maxRecDepth 20000 in
theorem ggX5_endsAtBreak_X5_onPage : GoodIn wsX5_endsAtBreak wsX5_onPage := goodIn_r _ [15, 3, 2, 62, 63, 64, 65, 66, 67, 68, 69, 70, 71, 72, 75, 76, 77, 78, 79, 80] (by decide +kernel) (by decide +kernel)
set_option maxRecDepth 20000 in
theorem gX5_endsAtBreak_X5_onPage : GoodIn wsX5_endsAtBreak (wsV RX5 148 RX5 yX5_onPage wsX5_onPage) := goodIn_app (goodIn_of _ (by decide +kernel)) ggX5_endsAtBreak_X5_onPage
set_option maxRecDepth 20000 in
theorem ggX5_endsAtBreak_X2_weigh : GoodIn wsX5_endsAtBreak wsX2_weigh := goodIn_r _ [20, 21, 22, 23, 24, 25, 26, 19, 27, 28, 29, 30, 31, 32, 33, 34, 35, 36, 37, 14, 38, 39, 40, 41, 42, 43, 44, 45, 46, 47, 48, 49, 50, 51, 52, 53, 54, 55, 56, 57, 58, 59, 60, 61, 75, 76, 77, 78, 79, 80, 81, 82, 83, 84, 85, 86] (by decide +kernel) (by decide +kernel)
set_option maxRecDepth 20000 in
theorem gX5_endsAtBreak_X2_weigh : GoodIn wsX5_endsAtBreak (wsV RX5 213 RX2 yX2_weigh wsX2_weigh) := goodIn_app (goodIn_of _ (by decide +kernel)) ggX5_endsAtBreak_X2_weigh
theorem dX5_endsAtBreak_0 : decode cX5_endsAtBreak 0 = .ok (.iload_n 1, 1) := by decide +kernel
theorem dX5_endsAtBreak_1 : decode cX5_endsAtBreak 1 = .ok (.bipush 7, 2) := by decide +kernel
theorem dX5_endsAtBreak_3 : decode cX5_endsAtBreak 3 = .ok (.if_icmp .ne 18, 3) := by decide +kernel
theorem dX5_endsAtBreak_6 : decode cX5_endsAtBreak 6 = .ok (.aload_n 0, 1) := by decide +kernel
theorem dX5_endsAtBreak_7 : decode cX5_endsAtBreak 7 = .ok (.getfield 14, 3) := by decide +kernel
theorem dX5_endsAtBreak_10 : decode cX5_endsAtBreak 10 = .ok (.aload_n 0, 1) := by decide +kernel
theorem dX5_endsAtBreak_11 : decode cX5_endsAtBreak 11 = .ok (.getfield 43, 3) := by decide +kernel
theorem dX5_endsAtBreak_14 : decode cX5_endsAtBreak 14 = .ok (.iconst 1, 1) := by decide +kernel
theorem dX5_endsAtBreak_15 : decode cX5_endsAtBreak 15 = .ok (.invokevirtual 138, 3) := by decide +kernel
theorem dX5_endsAtBreak_18 : decode cX5_endsAtBreak 18 = .ok (.goto 4, 3) := by decide +kernel
theorem dX5_endsAtBreak_21 : decode cX5_endsAtBreak 21 = .ok (.iconst 0, 1) := by decide +kernel
theorem dX5_endsAtBreak_22 : decode cX5_endsAtBreak 22 = .ok (.istore_n 2, 1) := by decide +kernel
theorem dX5_endsAtBreak_23 : decode cX5_endsAtBreak 23 = .ok (.aload_n 0, 1) := by decide +kernel
theorem dX5_endsAtBreak_24 : decode cX5_endsAtBreak 24 = .ok (.getfield 21, 3) := by decide +kernel
theorem dX5_endsAtBreak_27 : decode cX5_endsAtBreak 27 = .ok (.iload_n 2, 1) := by decide +kernel
theorem dX5_endsAtBreak_28 : decode cX5_endsAtBreak 28 = .ok (.aload_n 0, 1) := by decide +kernel
theorem dX5_endsAtBreak_29 : decode cX5_endsAtBreak 29 = .ok (.invokevirtual 148, 3) := by decide +kernel
theorem dX5_endsAtBreak_32 : decode cX5_endsAtBreak 32 = .ok (.invokevirtual 213, 3) := by decide +kernel
theorem dX5_endsAtBreak_35 : decode cX5_endsAtBreak 35 = .ok (.ireturn, 1) := by decide +kernel
set_option maxRecDepth 20000 in
theorem ggX5_endPage_X2_hasBest : GoodIn wsX5_endPage wsX2_hasBest := goodIn_r _ [10, 11, 193, 194, 195, 196, 197, 198] (by decide +kernel) (by decide +kernel)
set_option maxRecDepth 20000 in
theorem gX5_endPage_X2_hasBest : GoodIn wsX5_endPage (wsV RX5 151 RX2 yX2_hasBest wsX2_hasBest) := goodIn_app (goodIn_of _ (by decide +kernel)) ggX5_endPage_X2_hasBest
set_option maxRecDepth 20000 in
theorem ggX5_endPage_X4_clear : GoodIn wsX5_endPage wsX4_clear := goodIn_r _ [16, 17, 18, 19, 20, 21, 22, 23, 24, 25, 26, 199, 200, 201, 202, 203, 204] (by decide +kernel) (by decide +kernel)
set_option maxRecDepth 20000 in
theorem gX5_endPage_X4_clear : GoodIn wsX5_endPage (wsV RX5 223 RX4 yX4_clear wsX4_clear) := goodIn_app (goodIn_of _ (by decide +kernel)) ggX5_endPage_X4_clear
set_option maxRecDepth 20000 in
theorem ggX5_endPage_X4_take : GoodIn wsX5_endPage wsX4_take := goodIn_r _ [30, 20, 19, 31, 32, 33, 34, 35, 36, 37, 38, 39, 40, 15, 41, 22, 42, 43, 44, 45, 21, 46, 47, 48, 49, 50, 51, 52, 18, 17, 199, 200, 201, 202, 203, 204, 205, 206] (by decide +kernel) (by decide +kernel)
set_option maxRecDepth 20000 in
theorem gX5_endPage_X4_take : GoodIn wsX5_endPage (wsV RX5 201 RX4 yX4_take wsX4_take) := goodIn_app (goodIn_of _ (by decide +kernel)) ggX5_endPage_X4_take
set_option maxRecDepth 20000 in
theorem ggX5_endPage_X4_areSizes : GoodIn wsX5_endPage wsX4_areSizes := goodIn_r _ [56, 17, 18, 21, 57, 58, 59, 60, 61, 62, 63, 64, 15, 65, 19, 20, 199, 200, 201, 202, 203, 204] (by decide +kernel) (by decide +kernel)
set_option maxRecDepth 20000 in
theorem gX5_endPage_X4_areSizes : GoodIn wsX5_endPage (wsV RX5 226 RX4 yX4_areSizes wsX4_areSizes) := goodIn_app (goodIn_of _ (by decide +kernel)) ggX5_endPage_X4_areSizes
set_option maxRecDepth 20000 in
theorem ggX5_endPage_X3_put : GoodIn wsX5_endPage wsX3_put := goodIn_r _ [70, 71, 72, 73, 74, 44, 75, 76, 77, 78, 79, 80, 81, 82, 83, 84, 85, 86, 87, 88, 89, 90, 91, 34, 92, 93, 94, 95, 96, 97, 37, 98, 99, 100, 101, 102, 103, 104, 105, 106, 107, 108, 36, 109, 110, 111, 112, 113, 114, 115, 116, 117, 118, 119, 120, 121, 122, 25, 123, 124, 125, 126, 127, 128, 129, 130, 131, 132, 63, 64, 15, 65, 19, 20, 133, 134, 135, 136, 137, 47, 48, 138, 139, 140, 141, 17, 142, 143, 144, 145, 146, 147, 148, 149, 150, 151, 152, 153, 154, 32, 33, 35, 155, 156, 157, 158, 159, 58, 160, 161, 162, 163, 164, 165, 166, 167, 168, 169, 170, 43, 45, 171, 172, 173, 174, 207, 208, 209, 210, 211, 212, 213, 214, 205, 206, 199, 200, 201, 202, 203, 204] (by decide +kernel) (by decide +kernel)
set_option maxRecDepth 20000 in
theorem gX5_endPage_X3_put : GoodIn wsX5_endPage (wsV RX5 232 RX3 yX3_put wsX3_put) := goodIn_app (goodIn_of _ (by decide +kernel)) ggX5_endPage_X3_put
set_option maxRecDepth 20000 in
theorem ggX5_endPage_X2_forget : GoodIn wsX5_endPage wsX2_forget := goodIn_r _ [178, 179, 180, 11, 181, 193, 194, 195, 196, 197, 198] (by decide +kernel) (by decide +kernel)
set_option maxRecDepth 20000 in
theorem gX5_endPage_X2_forget : GoodIn wsX5_endPage (wsV RX5 236 RX2 yX2_forget wsX2_forget) := goodIn_app (goodIn_of _ (by decide +kernel)) ggX5_endPage_X2_forget
theorem dX5_endPage_0 : decode cX5_endPage 0 = .ok (.aload_n 0, 1) := by decide +kernel
theorem dX5_endPage_1 : decode cX5_endPage 1 = .ok (.getfield 21, 3) := by decide +kernel
theorem dX5_endPage_4 : decode cX5_endPage 4 = .ok (.getfield 185, 3) := by decide +kernel
theorem dX5_endPage_7 : decode cX5_endPage 7 = .ok (.istore_n 1, 1) := by decide +kernel
theorem dX5_endPage_8 : decode cX5_endPage 8 = .ok (.aload_n 0, 1) := by decide +kernel
theorem dX5_endPage_9 : decode cX5_endPage 9 = .ok (.getfield 21, 3) := by decide +kernel
theorem dX5_endPage_12 : decode cX5_endPage 12 = .ok (.invokevirtual 151, 3) := by decide +kernel
theorem dX5_endPage_15 : decode cX5_endPage 15 = .ok (.ifCond .eq 15, 3) := by decide +kernel
theorem dX5_endPage_18 : decode cX5_endPage 18 = .ok (.iload_n 1, 1) := by decide +kernel
theorem dX5_endPage_19 : decode cX5_endPage 19 = .ok (.aload_n 0, 1) := by decide +kernel
theorem dX5_endPage_20 : decode cX5_endPage 20 = .ok (.getfield 21, 3) := by decide +kernel
theorem dX5_endPage_23 : decode cX5_endPage 23 = .ok (.getfield 217, 3) := by decide +kernel
theorem dX5_endPage_26 : decode cX5_endPage 26 = .ok (.iadd, 1) := by decide +kernel
theorem dX5_endPage_27 : decode cX5_endPage 27 = .ok (.goto 7, 3) := by decide +kernel
theorem dX5_endPage_30 : decode cX5_endPage 30 = .ok (.aload_n 0, 1) := by decide +kernel
theorem dX5_endPage_31 : decode cX5_endPage 31 = .ok (.getfield 43, 3) := by decide +kernel
theorem dX5_endPage_34 : decode cX5_endPage 34 = .ok (.istore_n 2, 1) := by decide +kernel
theorem dX5_endPage_35 : decode cX5_endPage 35 = .ok (.aload_n 0, 1) := by decide +kernel
theorem dX5_endPage_36 : decode cX5_endPage 36 = .ok (.getfield 35, 3) := by decide +kernel
theorem dX5_endPage_39 : decode cX5_endPage 39 = .ok (.aload_n 0, 1) := by decide +kernel
theorem dX5_endPage_40 : decode cX5_endPage 40 = .ok (.getfield 21, 3) := by decide +kernel
theorem dX5_endPage_43 : decode cX5_endPage 43 = .ok (.getfield 158, 3) := by decide +kernel
theorem dX5_endPage_46 : decode cX5_endPage 46 = .ok (.getfield 220, 3) := by decide +kernel
theorem dX5_endPage_49 : decode cX5_endPage 49 = .ok (.invokevirtual 223, 3) := by decide +kernel
theorem dX5_endPage_52 : decode cX5_endPage 52 = .ok (.iload_n 1, 1) := by decide +kernel
theorem dX5_endPage_53 : decode cX5_endPage 53 = .ok (.istore_n 3, 1) := by decide +kernel
theorem dX5_endPage_54 : decode cX5_endPage 54 = .ok (.iload_n 3, 1) := by decide +kernel
theorem dX5_endPage_55 : decode cX5_endPage 55 = .ok (.iload_n 2, 1) := by decide +kernel
theorem dX5_endPage_56 : decode cX5_endPage 56 = .ok (.if_icmp .ge 21, 3) := by decide +kernel
theorem dX5_endPage_59 : decode cX5_endPage 59 = .ok (.aload_n 0, 1) := by decide +kernel
theorem dX5_endPage_60 : decode cX5_endPage 60 = .ok (.getfield 35, 3) := by decide +kernel
theorem dX5_endPage_63 : decode cX5_endPage 63 = .ok (.aload_n 0, 1) := by decide +kernel
theorem dX5_endPage_64 : decode cX5_endPage 64 = .ok (.getfield 14, 3) := by decide +kernel
theorem dX5_endPage_67 : decode cX5_endPage 67 = .ok (.iload_n 3, 1) := by decide +kernel
theorem dX5_endPage_68 : decode cX5_endPage 68 = .ok (.invokevirtual 201, 3) := by decide +kernel
theorem dX5_endPage_71 : decode cX5_endPage 71 = .ok (.iinc 3 1, 3) := by decide +kernel
theorem dX5_endPage_74 : decode cX5_endPage 74 = .ok (.goto (-20), 3) := by decide +kernel
theorem dX5_endPage_77 : decode cX5_endPage 77 = .ok (.aload_n 0, 1) := by decide +kernel
theorem dX5_endPage_78 : decode cX5_endPage 78 = .ok (.getfield 35, 3) := by decide +kernel
theorem dX5_endPage_81 : decode cX5_endPage 81 = .ok (.invokevirtual 226, 3) := by decide +kernel
theorem dX5_endPage_84 : decode cX5_endPage 84 = .ok (.ifCond .ne 5, 3) := by decide +kernel
theorem dX5_endPage_87 : decode cX5_endPage 87 = .ok (.iconst 0, 1) := by decide +kernel
theorem dX5_endPage_88 : decode cX5_endPage 88 = .ok (.ireturn, 1) := by decide +kernel
theorem dX5_endPage_89 : decode cX5_endPage 89 = .ok (.aload_n 0, 1) := by decide +kernel
theorem dX5_endPage_90 : decode cX5_endPage 90 = .ok (.getfield 28, 3) := by decide +kernel
theorem dX5_endPage_93 : decode cX5_endPage 93 = .ok (.aload_n 0, 1) := by decide +kernel
theorem dX5_endPage_94 : decode cX5_endPage 94 = .ok (.getfield 14, 3) := by decide +kernel
theorem dX5_endPage_97 : decode cX5_endPage 97 = .ok (.iload_n 1, 1) := by decide +kernel
theorem dX5_endPage_98 : decode cX5_endPage 98 = .ok (.iload_n 2, 1) := by decide +kernel
theorem dX5_endPage_99 : decode cX5_endPage 99 = .ok (.aload_n 0, 1) := by decide +kernel
theorem dX5_endPage_100 : decode cX5_endPage 100 = .ok (.getfield 21, 3) := by decide +kernel
theorem dX5_endPage_103 : decode cX5_endPage 103 = .ok (.getfield 229, 3) := by decide +kernel
theorem dX5_endPage_106 : decode cX5_endPage 106 = .ok (.aload_n 0, 1) := by decide +kernel
theorem dX5_endPage_107 : decode cX5_endPage 107 = .ok (.getfield 35, 3) := by decide +kernel
theorem dX5_endPage_110 : decode cX5_endPage 110 = .ok (.invokevirtual 232, 3) := by decide +kernel
theorem dX5_endPage_113 : decode cX5_endPage 113 = .ok (.aload_n 0, 1) := by decide +kernel
theorem dX5_endPage_114 : decode cX5_endPage 114 = .ok (.iload_n 2, 1) := by decide +kernel
theorem dX5_endPage_115 : decode cX5_endPage 115 = .ok (.putfield 43, 3) := by decide +kernel
theorem dX5_endPage_118 : decode cX5_endPage 118 = .ok (.aload_n 0, 1) := by decide +kernel
theorem dX5_endPage_119 : decode cX5_endPage 119 = .ok (.getfield 21, 3) := by decide +kernel
theorem dX5_endPage_122 : decode cX5_endPage 122 = .ok (.invokevirtual 236, 3) := by decide +kernel
theorem dX5_endPage_125 : decode cX5_endPage 125 = .ok (.iconst 1, 1) := by decide +kernel
theorem dX5_endPage_126 : decode cX5_endPage 126 = .ok (.ireturn, 1) := by decide +kernel
set_option maxRecDepth 20000 in
theorem ggX5_loseAll_X3_clear : GoodIn wsX5_loseAll wsX3_clear := goodIn_r _ [9, 10, 69, 70, 71, 72] (by decide +kernel) (by decide +kernel)
set_option maxRecDepth 20000 in
theorem gX5_loseAll_X3_clear : GoodIn wsX5_loseAll (wsV RX5 239 RX3 yX3_clear wsX3_clear) := goodIn_app (goodIn_of _ (by decide +kernel)) ggX5_loseAll_X3_clear
set_option maxRecDepth 20000 in
theorem ggX5_loseAll_X2_forget : GoodIn wsX5_loseAll wsX2_forget := goodIn_r _ [15, 16, 17, 18, 19, 73, 74, 75, 76, 77, 78] (by decide +kernel) (by decide +kernel)
set_option maxRecDepth 20000 in
theorem gX5_loseAll_X2_forget : GoodIn wsX5_loseAll (wsV RX5 236 RX2 yX2_forget wsX2_forget) := goodIn_app (goodIn_of _ (by decide +kernel)) ggX5_loseAll_X2_forget
set_option maxRecDepth 20000 in
theorem ggX5_loseAll_X0_clear : GoodIn wsX5_loseAll wsX0_clear := goodIn_r _ [24, 25, 79, 80] (by decide +kernel) (by decide +kernel)
set_option maxRecDepth 20000 in
theorem gX5_loseAll_X0_clear : GoodIn wsX5_loseAll (wsV RX5 241 RX0 yX0_clear wsX0_clear) := goodIn_app (goodIn_of _ (by decide +kernel)) ggX5_loseAll_X0_clear
set_option maxRecDepth 20000 in
theorem ggX5_loseAll_X0_append : GoodIn wsX5_loseAll wsX0_append := goodIn_r _ [29, 25, 30, 31, 32, 33, 23, 34, 35, 36, 37, 38, 39, 40, 41, 42, 43, 44, 45, 46, 47, 48, 49, 50, 51, 52, 53, 54, 55, 56, 57, 79, 80] (by decide +kernel) (by decide +kernel)
set_option maxRecDepth 20000 in
theorem gX5_loseAll_X0_append : GoodIn wsX5_loseAll (wsV RX5 39 RX0 yX0_append wsX0_append) := goodIn_app (goodIn_of _ (by decide +kernel)) ggX5_loseAll_X0_append
theorem dX5_loseAll_0 : decode cX5_loseAll 0 = .ok (.aload_n 0, 1) := by decide +kernel
theorem dX5_loseAll_1 : decode cX5_loseAll 1 = .ok (.getfield 28, 3) := by decide +kernel
theorem dX5_loseAll_4 : decode cX5_loseAll 4 = .ok (.invokevirtual 239, 3) := by decide +kernel
theorem dX5_loseAll_7 : decode cX5_loseAll 7 = .ok (.aload_n 0, 1) := by decide +kernel
theorem dX5_loseAll_8 : decode cX5_loseAll 8 = .ok (.getfield 21, 3) := by decide +kernel
theorem dX5_loseAll_11 : decode cX5_loseAll 11 = .ok (.invokevirtual 236, 3) := by decide +kernel
theorem dX5_loseAll_14 : decode cX5_loseAll 14 = .ok (.aload_n 0, 1) := by decide +kernel
theorem dX5_loseAll_15 : decode cX5_loseAll 15 = .ok (.getfield 14, 3) := by decide +kernel
theorem dX5_loseAll_18 : decode cX5_loseAll 18 = .ok (.invokevirtual 241, 3) := by decide +kernel
theorem dX5_loseAll_21 : decode cX5_loseAll 21 = .ok (.aload_n 0, 1) := by decide +kernel
theorem dX5_loseAll_22 : decode cX5_loseAll 22 = .ok (.getfield 14, 3) := by decide +kernel
theorem dX5_loseAll_25 : decode cX5_loseAll 25 = .ok (.invokevirtual 39, 3) := by decide +kernel
theorem dX5_loseAll_28 : decode cX5_loseAll 28 = .ok (.pop, 1) := by decide +kernel
theorem dX5_loseAll_29 : decode cX5_loseAll 29 = .ok (.aload_n 0, 1) := by decide +kernel
theorem dX5_loseAll_30 : decode cX5_loseAll 30 = .ok (.iconst 1, 1) := by decide +kernel
theorem dX5_loseAll_31 : decode cX5_loseAll 31 = .ok (.putfield 43, 3) := by decide +kernel
theorem dX5_loseAll_34 : decode cX5_loseAll 34 = .ok (.return_, 1) := by decide +kernel
set_option maxRecDepth 20000 in
theorem ggX5_dropUsed_X0_dropFirst : GoodIn wsX5_dropUsed wsX0_dropFirst := goodIn_r _ [8, 9, 10, 11, 12, 13, 14, 32, 33] (by decide +kernel) (by decide +kernel)
set_option maxRecDepth 20000 in
theorem gX5_dropUsed_X0_dropFirst : GoodIn wsX5_dropUsed (wsV RX5 242 RX0 yX0_dropFirst wsX0_dropFirst) := goodIn_app (goodIn_of _ (by decide +kernel)) ggX5_dropUsed_X0_dropFirst
theorem dX5_dropUsed_0 : decode cX5_dropUsed 0 = .ok (.aload_n 0, 1) := by decide +kernel
theorem dX5_dropUsed_1 : decode cX5_dropUsed 1 = .ok (.getfield 21, 3) := by decide +kernel
theorem dX5_dropUsed_4 : decode cX5_dropUsed 4 = .ok (.getfield 154, 3) := by decide +kernel
theorem dX5_dropUsed_7 : decode cX5_dropUsed 7 = .ok (.ifCond .eq 13, 3) := by decide +kernel
theorem dX5_dropUsed_10 : decode cX5_dropUsed 10 = .ok (.aload_n 0, 1) := by decide +kernel
theorem dX5_dropUsed_11 : decode cX5_dropUsed 11 = .ok (.getfield 21, 3) := by decide +kernel
theorem dX5_dropUsed_14 : decode cX5_dropUsed 14 = .ok (.getfield 185, 3) := by decide +kernel
theorem dX5_dropUsed_17 : decode cX5_dropUsed 17 = .ok (.goto 9, 3) := by decide +kernel
theorem dX5_dropUsed_20 : decode cX5_dropUsed 20 = .ok (.aload_n 0, 1) := by decide +kernel
theorem dX5_dropUsed_21 : decode cX5_dropUsed 21 = .ok (.getfield 43, 3) := by decide +kernel
theorem dX5_dropUsed_24 : decode cX5_dropUsed 24 = .ok (.iconst 1, 1) := by decide +kernel
theorem dX5_dropUsed_25 : decode cX5_dropUsed 25 = .ok (.isub, 1) := by decide +kernel
theorem dX5_dropUsed_26 : decode cX5_dropUsed 26 = .ok (.istore_n 1, 1) := by decide +kernel
theorem dX5_dropUsed_27 : decode cX5_dropUsed 27 = .ok (.aload_n 0, 1) := by decide +kernel
theorem dX5_dropUsed_28 : decode cX5_dropUsed 28 = .ok (.getfield 14, 3) := by decide +kernel
theorem dX5_dropUsed_31 : decode cX5_dropUsed 31 = .ok (.iload_n 1, 1) := by decide +kernel
theorem dX5_dropUsed_32 : decode cX5_dropUsed 32 = .ok (.invokevirtual 242, 3) := by decide +kernel
theorem dX5_dropUsed_35 : decode cX5_dropUsed 35 = .ok (.aload_n 0, 1) := by decide +kernel
theorem dX5_dropUsed_36 : decode cX5_dropUsed 36 = .ok (.getfield 21, 3) := by decide +kernel
theorem dX5_dropUsed_39 : decode cX5_dropUsed 39 = .ok (.iconst 0, 1) := by decide +kernel
theorem dX5_dropUsed_40 : decode cX5_dropUsed 40 = .ok (.putfield 185, 3) := by decide +kernel
theorem dX5_dropUsed_43 : decode cX5_dropUsed 43 = .ok (.aload_n 0, 1) := by decide +kernel
theorem dX5_dropUsed_44 : decode cX5_dropUsed 44 = .ok (.dup, 1) := by decide +kernel
theorem dX5_dropUsed_45 : decode cX5_dropUsed 45 = .ok (.getfield 43, 3) := by decide +kernel
theorem dX5_dropUsed_48 : decode cX5_dropUsed 48 = .ok (.iload_n 1, 1) := by decide +kernel
theorem dX5_dropUsed_49 : decode cX5_dropUsed 49 = .ok (.isub, 1) := by decide +kernel
theorem dX5_dropUsed_50 : decode cX5_dropUsed 50 = .ok (.putfield 43, 3) := by decide +kernel
theorem dX5_dropUsed_53 : decode cX5_dropUsed 53 = .ok (.return_, 1) := by decide +kernel
theorem dX5_isSize_0 : decode cX5_isSize 0 = .ok (.lload_n 0, 1) := by decide +kernel
theorem dX5_isSize_1 : decode cX5_isSize 1 = .ok (.ldc2_w 245, 3) := by decide +kernel
theorem dX5_isSize_4 : decode cX5_isSize 4 = .ok (.lcmp, 1) := by decide +kernel
theorem dX5_isSize_5 : decode cX5_isSize 5 = .ok (.ifCond .lt 15, 3) := by decide +kernel
theorem dX5_isSize_8 : decode cX5_isSize 8 = .ok (.lload_n 0, 1) := by decide +kernel
theorem dX5_isSize_9 : decode cX5_isSize 9 = .ok (.ldc2_w 247, 3) := by decide +kernel
theorem dX5_isSize_12 : decode cX5_isSize 12 = .ok (.lcmp, 1) := by decide +kernel
theorem dX5_isSize_13 : decode cX5_isSize 13 = .ok (.ifCond .gt 7, 3) := by decide +kernel
theorem dX5_isSize_16 : decode cX5_isSize 16 = .ok (.iconst 1, 1) := by decide +kernel
theorem dX5_isSize_17 : decode cX5_isSize 17 = .ok (.goto 4, 3) := by decide +kernel
theorem dX5_isSize_20 : decode cX5_isSize 20 = .ok (.iconst 0, 1) := by decide +kernel
theorem dX5_isSize_21 : decode cX5_isSize 21 = .ok (.ireturn, 1) := by decide +kernel
set_option maxRecDepth 20000 in
theorem ggX5_isGlue_X5_isSize : GoodIn wsX5_isGlue wsX5_isSize := goodIn_r _ [4, 5, 6] (by decide +kernel) (by decide +kernel)
set_option maxRecDepth 20000 in
theorem gX5_isGlue_X5_isSize : GoodIn wsX5_isGlue (va_wsS RX5 47 yX5_isSize wsX5_isSize) := goodIn_app (goodIn_of _ (by decide +kernel)) ggX5_isGlue_X5_isSize
theorem dX5_isGlue_0 : decode cX5_isGlue 0 = .ok (.iload_n 0, 1) := by decide +kernel
theorem dX5_isGlue_1 : decode cX5_isGlue 1 = .ok (.i2l, 1) := by decide +kernel
theorem dX5_isGlue_2 : decode cX5_isGlue 2 = .ok (.invokestatic 47, 3) := by decide +kernel
theorem dX5_isGlue_5 : decode cX5_isGlue 5 = .ok (.ifCond .eq 40, 3) := by decide +kernel
theorem dX5_isGlue_8 : decode cX5_isGlue 8 = .ok (.iload_n 1, 1) := by decide +kernel
theorem dX5_isGlue_9 : decode cX5_isGlue 9 = .ok (.i2l, 1) := by decide +kernel
theorem dX5_isGlue_10 : decode cX5_isGlue 10 = .ok (.invokestatic 47, 3) := by decide +kernel
theorem dX5_isGlue_13 : decode cX5_isGlue 13 = .ok (.ifCond .eq 32, 3) := by decide +kernel
theorem dX5_isGlue_16 : decode cX5_isGlue 16 = .ok (.iload_n 1, 1) := by decide +kernel
theorem dX5_isGlue_17 : decode cX5_isGlue 17 = .ok (.ifCond .lt 28, 3) := by decide +kernel
theorem dX5_isGlue_20 : decode cX5_isGlue 20 = .ok (.iload_n 2, 1) := by decide +kernel
theorem dX5_isGlue_21 : decode cX5_isGlue 21 = .ok (.ifCond .lt 24, 3) := by decide +kernel
theorem dX5_isGlue_24 : decode cX5_isGlue 24 = .ok (.iload_n 2, 1) := by decide +kernel
theorem dX5_isGlue_25 : decode cX5_isGlue 25 = .ok (.iconst 4, 1) := by decide +kernel
theorem dX5_isGlue_26 : decode cX5_isGlue 26 = .ok (.if_icmp .ge 19, 3) := by decide +kernel
theorem dX5_isGlue_29 : decode cX5_isGlue 29 = .ok (.iload_n 3, 1) := by decide +kernel
theorem dX5_isGlue_30 : decode cX5_isGlue 30 = .ok (.i2l, 1) := by decide +kernel
theorem dX5_isGlue_31 : decode cX5_isGlue 31 = .ok (.invokestatic 47, 3) := by decide +kernel
theorem dX5_isGlue_34 : decode cX5_isGlue 34 = .ok (.ifCond .eq 11, 3) := by decide +kernel
theorem dX5_isGlue_37 : decode cX5_isGlue 37 = .ok (.iload_n 3, 1) := by decide +kernel
theorem dX5_isGlue_38 : decode cX5_isGlue 38 = .ok (.ifCond .lt 7, 3) := by decide +kernel
theorem dX5_isGlue_41 : decode cX5_isGlue 41 = .ok (.iconst 1, 1) := by decide +kernel
theorem dX5_isGlue_42 : decode cX5_isGlue 42 = .ok (.goto 4, 3) := by decide +kernel
theorem dX5_isGlue_45 : decode cX5_isGlue 45 = .ok (.iconst 0, 1) := by decide +kernel
theorem dX5_isGlue_46 : decode cX5_isGlue 46 = .ok (.ireturn, 1) := by decide +kernel
theorem dX5_isSolid_0 : decode cX5_isSolid 0 = .ok (.iload_n 0, 1) := by decide +kernel
theorem dX5_isSolid_1 : decode cX5_isSolid 1 = .ok (.iconst 2, 1) := by decide +kernel
theorem dX5_isSolid_2 : decode cX5_isSolid 2 = .ok (.if_icmp .eq 8, 3) := by decide +kernel
theorem dX5_isSolid_5 : decode cX5_isSolid 5 = .ok (.iload_n 0, 1) := by decide +kernel
theorem dX5_isSolid_6 : decode cX5_isSolid 6 = .ok (.iconst 4, 1) := by decide +kernel
theorem dX5_isSolid_7 : decode cX5_isSolid 7 = .ok (.if_icmp .ne 7, 3) := by decide +kernel
theorem dX5_isSolid_10 : decode cX5_isSolid 10 = .ok (.iconst 1, 1) := by decide +kernel
theorem dX5_isSolid_11 : decode cX5_isSolid 11 = .ok (.goto 4, 3) := by decide +kernel
theorem dX5_isSolid_14 : decode cX5_isSolid 14 = .ok (.iconst 0, 1) := by decide +kernel
theorem dX5_isSolid_15 : decode cX5_isSolid 15 = .ok (.ireturn, 1) := by decide +kernel
theorem dX5_badness_0 : decode cX5_badness 0 = .ok (.lload_n 0, 1) := by decide +kernel
theorem dX5_badness_1 : decode cX5_badness 1 = .ok (.lconst 0, 1) := by decide +kernel
theorem dX5_badness_2 : decode cX5_badness 2 = .ok (.lcmp, 1) := by decide +kernel
theorem dX5_badness_3 : decode cX5_badness 3 = .ok (.ifCond .ne 5, 3) := by decide +kernel
theorem dX5_badness_6 : decode cX5_badness 6 = .ok (.lconst 0, 1) := by decide +kernel
theorem dX5_badness_7 : decode cX5_badness 7 = .ok (.lreturn, 1) := by decide +kernel
theorem dX5_badness_8 : decode cX5_badness 8 = .ok (.lload_n 2, 1) := by decide +kernel
theorem dX5_badness_9 : decode cX5_badness 9 = .ok (.lconst 0, 1) := by decide +kernel
theorem dX5_badness_10 : decode cX5_badness 10 = .ok (.lcmp, 1) := by decide +kernel
theorem dX5_badness_11 : decode cX5_badness 11 = .ok (.ifCond .gt 7, 3) := by decide +kernel
theorem dX5_badness_14 : decode cX5_badness 14 = .ok (.ldc2_w 249, 3) := by decide +kernel
theorem dX5_badness_17 : decode cX5_badness 17 = .ok (.lreturn, 1) := by decide +kernel
theorem dX5_badness_18 : decode cX5_badness 18 = .ok (.ldc2_w 251, 3) := by decide +kernel
theorem dX5_badness_21 : decode cX5_badness 21 = .ok (.lload_n 0, 1) := by decide +kernel
theorem dX5_badness_22 : decode cX5_badness 22 = .ok (.lmul, 1) := by decide +kernel
theorem dX5_badness_23 : decode cX5_badness 23 = .ok (.lload_n 2, 1) := by decide +kernel
theorem dX5_badness_24 : decode cX5_badness 24 = .ok (.ldiv, 1) := by decide +kernel
theorem dX5_badness_25 : decode cX5_badness 25 = .ok (.lstore 4, 2) := by decide +kernel
theorem dX5_badness_27 : decode cX5_badness 27 = .ok (.lload 4, 2) := by decide +kernel
theorem dX5_badness_29 : decode cX5_badness 29 = .ok (.ldc2_w 253, 3) := by decide +kernel
theorem dX5_badness_32 : decode cX5_badness 32 = .ok (.lcmp, 1) := by decide +kernel
theorem dX5_badness_33 : decode cX5_badness 33 = .ok (.ifCond .le 9, 3) := by decide +kernel
theorem dX5_badness_36 : decode cX5_badness 36 = .ok (.ldc2_w 249, 3) := by decide +kernel
theorem dX5_badness_39 : decode cX5_badness 39 = .ok (.goto 19, 3) := by decide +kernel
theorem dX5_badness_42 : decode cX5_badness 42 = .ok (.lload 4, 2) := by decide +kernel
theorem dX5_badness_44 : decode cX5_badness 44 = .ok (.lload 4, 2) := by decide +kernel
theorem dX5_badness_46 : decode cX5_badness 46 = .ok (.lmul, 1) := by decide +kernel
theorem dX5_badness_47 : decode cX5_badness 47 = .ok (.lload 4, 2) := by decide +kernel
theorem dX5_badness_49 : decode cX5_badness 49 = .ok (.lmul, 1) := by decide +kernel
theorem dX5_badness_50 : decode cX5_badness 50 = .ok (.ldc2_w 255, 3) := by decide +kernel
theorem dX5_badness_53 : decode cX5_badness 53 = .ok (.ladd, 1) := by decide +kernel
theorem dX5_badness_54 : decode cX5_badness 54 = .ok (.ldc2_w 257, 3) := by decide +kernel
theorem dX5_badness_57 : decode cX5_badness 57 = .ok (.ldiv, 1) := by decide +kernel
theorem dX5_badness_58 : decode cX5_badness 58 = .ok (.lreturn, 1) := by decide +kernel
theorem dX5_near_0 : decode cX5_near 0 = .ok (.lload_n 2, 1) := by decide +kernel
theorem dX5_near_1 : decode cX5_near 1 = .ok (.lconst 0, 1) := by decide +kernel
theorem dX5_near_2 : decode cX5_near 2 = .ok (.lcmp, 1) := by decide +kernel
theorem dX5_near_3 : decode cX5_near 3 = .ok (.ifCond .gt 5, 3) := by decide +kernel
theorem dX5_near_6 : decode cX5_near 6 = .ok (.lconst 0, 1) := by decide +kernel
theorem dX5_near_7 : decode cX5_near 7 = .ok (.lreturn, 1) := by decide +kernel
theorem dX5_near_8 : decode cX5_near 8 = .ok (.ldc2_w 259, 3) := by decide +kernel
theorem dX5_near_11 : decode cX5_near 11 = .ok (.lload_n 0, 1) := by decide +kernel
theorem dX5_near_12 : decode cX5_near 12 = .ok (.invokestatic 261, 3) := by decide +kernel
theorem dX5_near_15 : decode cX5_near 15 = .ok (.lmul, 1) := by decide +kernel
theorem dX5_near_16 : decode cX5_near 16 = .ok (.lload_n 2, 1) := by decide +kernel
theorem dX5_near_17 : decode cX5_near 17 = .ok (.ladd, 1) := by decide +kernel
theorem dX5_near_18 : decode cX5_near 18 = .ok (.ldc2_w 259, 3) := by decide +kernel
theorem dX5_near_21 : decode cX5_near 21 = .ok (.lload_n 2, 1) := by decide +kernel
theorem dX5_near_22 : decode cX5_near 22 = .ok (.lmul, 1) := by decide +kernel
theorem dX5_near_23 : decode cX5_near 23 = .ok (.ldiv, 1) := by decide +kernel
theorem dX5_near_24 : decode cX5_near 24 = .ok (.lstore 4, 2) := by decide +kernel
theorem dX5_near_26 : decode cX5_near 26 = .ok (.lload_n 0, 1) := by decide +kernel
theorem dX5_near_27 : decode cX5_near 27 = .ok (.lconst 0, 1) := by decide +kernel
theorem dX5_near_28 : decode cX5_near 28 = .ok (.lcmp, 1) := by decide +kernel
theorem dX5_near_29 : decode cX5_near 29 = .ok (.ifCond .ge 9, 3) := by decide +kernel
theorem dX5_near_32 : decode cX5_near 32 = .ok (.lload 4, 2) := by decide +kernel
theorem dX5_near_34 : decode cX5_near 34 = .ok (.lneg, 1) := by decide +kernel
theorem dX5_near_35 : decode cX5_near 35 = .ok (.goto 5, 3) := by decide +kernel
theorem dX5_near_38 : decode cX5_near 38 = .ok (.lload 4, 2) := by decide +kernel
theorem dX5_near_40 : decode cX5_near 40 = .ok (.lreturn, 1) := by decide +kernel
theorem dX6_init_0 : decode cX6_init 0 = .ok (.aload_n 0, 1) := by decide +kernel
theorem dX6_init_1 : decode cX6_init 1 = .ok (.invokespecial 1, 3) := by decide +kernel
theorem dX6_init_4 : decode cX6_init 4 = .ok (.aload_n 0, 1) := by decide +kernel
theorem dX6_init_5 : decode cX6_init 5 = .ok (.sipush 12700, 3) := by decide +kernel
theorem dX6_init_8 : decode cX6_init 8 = .ok (.newarray .int, 2) := by decide +kernel
theorem dX6_init_10 : decode cX6_init 10 = .ok (.putfield 7, 3) := by decide +kernel
theorem dX6_init_13 : decode cX6_init 13 = .ok (.aload_n 0, 1) := by decide +kernel
theorem dX6_init_14 : decode cX6_init 14 = .ok (.sipush 12700, 3) := by decide +kernel
theorem dX6_init_17 : decode cX6_init 17 = .ok (.newarray .int, 2) := by decide +kernel
theorem dX6_init_19 : decode cX6_init 19 = .ok (.putfield 13, 3) := by decide +kernel
theorem dX6_init_22 : decode cX6_init 22 = .ok (.aload_n 0, 1) := by decide +kernel
theorem dX6_init_23 : decode cX6_init 23 = .ok (.sipush 12700, 3) := by decide +kernel
theorem dX6_init_26 : decode cX6_init 26 = .ok (.newarray .int, 2) := by decide +kernel
theorem dX6_init_28 : decode cX6_init 28 = .ok (.putfield 16, 3) := by decide +kernel
theorem dX6_init_31 : decode cX6_init 31 = .ok (.aload_n 0, 1) := by decide +kernel
theorem dX6_init_32 : decode cX6_init 32 = .ok (.sipush 12700, 3) := by decide +kernel
theorem dX6_init_35 : decode cX6_init 35 = .ok (.newarray .int, 2) := by decide +kernel
theorem dX6_init_37 : decode cX6_init 37 = .ok (.putfield 19, 3) := by decide +kernel
theorem dX6_init_40 : decode cX6_init 40 = .ok (.aload_n 0, 1) := by decide +kernel
theorem dX6_init_41 : decode cX6_init 41 = .ok (.sipush 12700, 3) := by decide +kernel
theorem dX6_init_44 : decode cX6_init 44 = .ok (.newarray .int, 2) := by decide +kernel
theorem dX6_init_46 : decode cX6_init 46 = .ok (.putfield 22, 3) := by decide +kernel
theorem dX6_init_49 : decode cX6_init 49 = .ok (.aload_n 0, 1) := by decide +kernel
theorem dX6_init_50 : decode cX6_init 50 = .ok (.sipush 12700, 3) := by decide +kernel
theorem dX6_init_53 : decode cX6_init 53 = .ok (.newarray .int, 2) := by decide +kernel
theorem dX6_init_55 : decode cX6_init 55 = .ok (.putfield 25, 3) := by decide +kernel
theorem dX6_init_58 : decode cX6_init 58 = .ok (.aload_n 0, 1) := by decide +kernel
theorem dX6_init_59 : decode cX6_init 59 = .ok (.sipush 12700, 3) := by decide +kernel
theorem dX6_init_62 : decode cX6_init 62 = .ok (.newarray .int, 2) := by decide +kernel
theorem dX6_init_64 : decode cX6_init 64 = .ok (.putfield 28, 3) := by decide +kernel
theorem dX6_init_67 : decode cX6_init 67 = .ok (.aload_n 0, 1) := by decide +kernel
theorem dX6_init_68 : decode cX6_init 68 = .ok (.sipush 12700, 3) := by decide +kernel
theorem dX6_init_71 : decode cX6_init 71 = .ok (.newarray .long, 2) := by decide +kernel
theorem dX6_init_73 : decode cX6_init 73 = .ok (.putfield 31, 3) := by decide +kernel
theorem dX6_init_76 : decode cX6_init 76 = .ok (.aload_n 0, 1) := by decide +kernel
theorem dX6_init_77 : decode cX6_init 77 = .ok (.bipush 9, 2) := by decide +kernel
theorem dX6_init_79 : decode cX6_init 79 = .ok (.newarray .int, 2) := by decide +kernel
theorem dX6_init_81 : decode cX6_init 81 = .ok (.putfield 35, 3) := by decide +kernel
theorem dX6_init_84 : decode cX6_init 84 = .ok (.aload_n 0, 1) := by decide +kernel
theorem dX6_init_85 : decode cX6_init 85 = .ok (.bipush 9, 2) := by decide +kernel
theorem dX6_init_87 : decode cX6_init 87 = .ok (.newarray .int, 2) := by decide +kernel
theorem dX6_init_89 : decode cX6_init 89 = .ok (.putfield 38, 3) := by decide +kernel
theorem dX6_init_92 : decode cX6_init 92 = .ok (.aload_n 0, 1) := by decide +kernel
theorem dX6_init_93 : decode cX6_init 93 = .ok (.bipush 9, 2) := by decide +kernel
theorem dX6_init_95 : decode cX6_init 95 = .ok (.newarray .int, 2) := by decide +kernel
theorem dX6_init_97 : decode cX6_init 97 = .ok (.putfield 41, 3) := by decide +kernel
theorem dX6_init_100 : decode cX6_init 100 = .ok (.aload_n 0, 1) := by decide +kernel
theorem dX6_init_101 : decode cX6_init 101 = .ok (.bipush 9, 2) := by decide +kernel
theorem dX6_init_103 : decode cX6_init 103 = .ok (.newarray .int, 2) := by decide +kernel
theorem dX6_init_105 : decode cX6_init 105 = .ok (.putfield 44, 3) := by decide +kernel
theorem dX6_init_108 : decode cX6_init 108 = .ok (.aload_n 0, 1) := by decide +kernel
theorem dX6_init_109 : decode cX6_init 109 = .ok (.iconst (-1), 1) := by decide +kernel
theorem dX6_init_110 : decode cX6_init 110 = .ok (.putfield 47, 3) := by decide +kernel
theorem dX6_init_113 : decode cX6_init 113 = .ok (.aload_n 0, 1) := by decide +kernel
theorem dX6_init_114 : decode cX6_init 114 = .ok (.iconst 4, 1) := by decide +kernel
theorem dX6_init_115 : decode cX6_init 115 = .ok (.newarray .long, 2) := by decide +kernel
theorem dX6_init_117 : decode cX6_init 117 = .ok (.putfield 51, 3) := by decide +kernel
theorem dX6_init_120 : decode cX6_init 120 = .ok (.return_, 1) := by decide +kernel
theorem dX6_thrown_0 : decode cX6_thrown 0 = .ok (.aload_n 0, 1) := by decide +kernel
theorem dX6_thrown_1 : decode cX6_thrown 1 = .ok (.getfield 54, 3) := by decide +kernel
theorem dX6_thrown_4 : decode cX6_thrown 4 = .ok (.ireturn, 1) := by decide +kernel
theorem dX6_fails_0 : decode cX6_fails 0 = .ok (.aload_n 0, 1) := by decide +kernel
theorem dX6_fails_1 : decode cX6_fails 1 = .ok (.iconst 1, 1) := by decide +kernel
theorem dX6_fails_2 : decode cX6_fails 2 = .ok (.putfield 54, 3) := by decide +kernel
theorem dX6_fails_5 : decode cX6_fails 5 = .ok (.iconst 0, 1) := by decide +kernel
theorem dX6_fails_6 : decode cX6_fails 6 = .ok (.ireturn, 1) := by decide +kernel
theorem dX6_isSize_0 : decode cX6_isSize 0 = .ok (.iload_n 0, 1) := by decide +kernel
theorem dX6_isSize_1 : decode cX6_isSize 1 = .ok (.ldc 57, 2) := by decide +kernel
theorem dX6_isSize_3 : decode cX6_isSize 3 = .ok (.if_icmp .lt 13, 3) := by decide +kernel
