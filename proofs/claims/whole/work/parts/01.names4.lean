theorem dX6_isSize_6 : decode cX6_isSize 6 = .ok (.iload_n 0, 1) := by decide +kernel
theorem dX6_isSize_7 : decode cX6_isSize 7 = .ok (.ldc 58, 2) := by decide +kernel
theorem dX6_isSize_9 : decode cX6_isSize 9 = .ok (.if_icmp .gt 7, 3) := by decide +kernel
theorem dX6_isSize_12 : decode cX6_isSize 12 = .ok (.iconst 1, 1) := by decide +kernel
theorem dX6_isSize_13 : decode cX6_isSize 13 = .ok (.goto 4, 3) := by decide +kernel
theorem dX6_isSize_16 : decode cX6_isSize 16 = .ok (.iconst 0, 1) := by decide +kernel
theorem dX6_isSize_17 : decode cX6_isSize 17 = .ok (.ireturn, 1) := by decide +kernel
theorem dX6_isSizeLong_0 : decode cX6_isSizeLong 0 = .ok (.lload_n 0, 1) := by decide +kernel
theorem dX6_isSizeLong_1 : decode cX6_isSizeLong 1 = .ok (.ldc2_w 59, 3) := by decide +kernel
theorem dX6_isSizeLong_4 : decode cX6_isSizeLong 4 = .ok (.lcmp, 1) := by decide +kernel
theorem dX6_isSizeLong_5 : decode cX6_isSizeLong 5 = .ok (.ifCond .lt 15, 3) := by decide +kernel
theorem dX6_isSizeLong_8 : decode cX6_isSizeLong 8 = .ok (.lload_n 0, 1) := by decide +kernel
theorem dX6_isSizeLong_9 : decode cX6_isSizeLong 9 = .ok (.ldc2_w 61, 3) := by decide +kernel
theorem dX6_isSizeLong_12 : decode cX6_isSizeLong 12 = .ok (.lcmp, 1) := by decide +kernel
theorem dX6_isSizeLong_13 : decode cX6_isSizeLong 13 = .ok (.ifCond .gt 7, 3) := by decide +kernel
theorem dX6_isSizeLong_16 : decode cX6_isSizeLong 16 = .ok (.iconst 1, 1) := by decide +kernel
theorem dX6_isSizeLong_17 : decode cX6_isSizeLong 17 = .ok (.goto 4, 3) := by decide +kernel
theorem dX6_isSizeLong_20 : decode cX6_isSizeLong 20 = .ok (.iconst 0, 1) := by decide +kernel
theorem dX6_isSizeLong_21 : decode cX6_isSizeLong 21 = .ok (.ireturn, 1) := by decide +kernel
set_option maxRecDepth 20000 in
theorem ggX6_page_X6_isSize : GoodIn wsX6_page wsX6_isSize := goodIn_r _ [7, 8, 9] (by decide +kernel) (by decide +kernel)
set_option maxRecDepth 20000 in
theorem gX6_page_X6_isSize : GoodIn wsX6_page (va_wsS RX6 63 yX6_isSize wsX6_isSize) := goodIn_app (goodIn_of _ (by decide +kernel)) ggX6_page_X6_isSize
theorem dX6_page_0 : decode cX6_page 0 = .ok (.aload_n 0, 1) := by decide +kernel
theorem dX6_page_1 : decode cX6_page 1 = .ok (.iconst 0, 1) := by decide +kernel
theorem dX6_page_2 : decode cX6_page 2 = .ok (.putfield 54, 3) := by decide +kernel
theorem dX6_page_5 : decode cX6_page 5 = .ok (.iload_n 1, 1) := by decide +kernel
theorem dX6_page_6 : decode cX6_page 6 = .ok (.invokestatic 63, 3) := by decide +kernel
theorem dX6_page_9 : decode cX6_page 9 = .ok (.ifCond .eq 14, 3) := by decide +kernel
theorem dX6_page_12 : decode cX6_page 12 = .ok (.iload_n 2, 1) := by decide +kernel
theorem dX6_page_13 : decode cX6_page 13 = .ok (.invokestatic 63, 3) := by decide +kernel
theorem dX6_page_16 : decode cX6_page 16 = .ok (.ifCond .eq 7, 3) := by decide +kernel
theorem dX6_page_19 : decode cX6_page 19 = .ok (.iload_n 2, 1) := by decide +kernel
theorem dX6_page_20 : decode cX6_page 20 = .ok (.ifCond .ge 5, 3) := by decide +kernel
theorem dX6_page_23 : decode cX6_page 23 = .ok (.iconst 0, 1) := by decide +kernel
theorem dX6_page_24 : decode cX6_page 24 = .ok (.ireturn, 1) := by decide +kernel
theorem dX6_page_25 : decode cX6_page 25 = .ok (.aload_n 0, 1) := by decide +kernel
theorem dX6_page_26 : decode cX6_page 26 = .ok (.iload_n 1, 1) := by decide +kernel
theorem dX6_page_27 : decode cX6_page 27 = .ok (.putfield 67, 3) := by decide +kernel
theorem dX6_page_30 : decode cX6_page 30 = .ok (.aload_n 0, 1) := by decide +kernel
theorem dX6_page_31 : decode cX6_page 31 = .ok (.iload_n 2, 1) := by decide +kernel
theorem dX6_page_32 : decode cX6_page 32 = .ok (.putfield 70, 3) := by decide +kernel
theorem dX6_page_35 : decode cX6_page 35 = .ok (.iconst 1, 1) := by decide +kernel
theorem dX6_page_36 : decode cX6_page 36 = .ok (.ireturn, 1) := by decide +kernel
set_option maxRecDepth 20000 in
theorem ggX6_isGlue_X6_isSize : GoodIn wsX6_isGlue wsX6_isSize := goodIn_r _ [4, 5, 6] (by decide +kernel) (by decide +kernel)
set_option maxRecDepth 20000 in
theorem gX6_isGlue_X6_isSize : GoodIn wsX6_isGlue (va_wsS RX6 63 yX6_isSize wsX6_isSize) := goodIn_app (goodIn_of _ (by decide +kernel)) ggX6_isGlue_X6_isSize
theorem dX6_isGlue_0 : decode cX6_isGlue 0 = .ok (.iload_n 0, 1) := by decide +kernel
theorem dX6_isGlue_1 : decode cX6_isGlue 1 = .ok (.invokestatic 63, 3) := by decide +kernel
theorem dX6_isGlue_4 : decode cX6_isGlue 4 = .ok (.ifCond .eq 38, 3) := by decide +kernel
theorem dX6_isGlue_7 : decode cX6_isGlue 7 = .ok (.iload_n 1, 1) := by decide +kernel
theorem dX6_isGlue_8 : decode cX6_isGlue 8 = .ok (.invokestatic 63, 3) := by decide +kernel
theorem dX6_isGlue_11 : decode cX6_isGlue 11 = .ok (.ifCond .eq 31, 3) := by decide +kernel
theorem dX6_isGlue_14 : decode cX6_isGlue 14 = .ok (.iload_n 3, 1) := by decide +kernel
theorem dX6_isGlue_15 : decode cX6_isGlue 15 = .ok (.invokestatic 63, 3) := by decide +kernel
theorem dX6_isGlue_18 : decode cX6_isGlue 18 = .ok (.ifCond .eq 24, 3) := by decide +kernel
theorem dX6_isGlue_21 : decode cX6_isGlue 21 = .ok (.iload_n 1, 1) := by decide +kernel
theorem dX6_isGlue_22 : decode cX6_isGlue 22 = .ok (.ifCond .lt 20, 3) := by decide +kernel
theorem dX6_isGlue_25 : decode cX6_isGlue 25 = .ok (.iload_n 3, 1) := by decide +kernel
theorem dX6_isGlue_26 : decode cX6_isGlue 26 = .ok (.ifCond .lt 16, 3) := by decide +kernel
theorem dX6_isGlue_29 : decode cX6_isGlue 29 = .ok (.iload_n 2, 1) := by decide +kernel
theorem dX6_isGlue_30 : decode cX6_isGlue 30 = .ok (.ifCond .lt 12, 3) := by decide +kernel
theorem dX6_isGlue_33 : decode cX6_isGlue 33 = .ok (.iload_n 2, 1) := by decide +kernel
theorem dX6_isGlue_34 : decode cX6_isGlue 34 = .ok (.iconst 4, 1) := by decide +kernel
theorem dX6_isGlue_35 : decode cX6_isGlue 35 = .ok (.if_icmp .ge 7, 3) := by decide +kernel
theorem dX6_isGlue_38 : decode cX6_isGlue 38 = .ok (.iconst 1, 1) := by decide +kernel
theorem dX6_isGlue_39 : decode cX6_isGlue 39 = .ok (.goto 4, 3) := by decide +kernel
theorem dX6_isGlue_42 : decode cX6_isGlue 42 = .ok (.iconst 0, 1) := by decide +kernel
theorem dX6_isGlue_43 : decode cX6_isGlue 43 = .ok (.ireturn, 1) := by decide +kernel
set_option maxRecDepth 20000 in
theorem ggX6_top_X6_isGlue : GoodIn wsX6_top wsX6_isGlue := goodIn_r _ [9, 10, 11, 8, 12, 13, 14] (by decide +kernel) (by decide +kernel)
set_option maxRecDepth 20000 in
theorem gX6_top_X6_isGlue : GoodIn wsX6_top (va_wsS RX6 73 yX6_isGlue wsX6_isGlue) := goodIn_app (goodIn_of _ (by decide +kernel)) ggX6_top_X6_isGlue
theorem dX6_top_0 : decode cX6_top 0 = .ok (.aload_n 0, 1) := by decide +kernel
theorem dX6_top_1 : decode cX6_top 1 = .ok (.iconst 0, 1) := by decide +kernel
theorem dX6_top_2 : decode cX6_top 2 = .ok (.putfield 54, 3) := by decide +kernel
theorem dX6_top_5 : decode cX6_top 5 = .ok (.iload_n 1, 1) := by decide +kernel
theorem dX6_top_6 : decode cX6_top 6 = .ok (.iload_n 2, 1) := by decide +kernel
theorem dX6_top_7 : decode cX6_top 7 = .ok (.iload_n 3, 1) := by decide +kernel
theorem dX6_top_8 : decode cX6_top 8 = .ok (.iload 4, 2) := by decide +kernel
theorem dX6_top_10 : decode cX6_top 10 = .ok (.invokestatic 73, 3) := by decide +kernel
theorem dX6_top_13 : decode cX6_top 13 = .ok (.ifCond .ne 5, 3) := by decide +kernel
theorem dX6_top_16 : decode cX6_top 16 = .ok (.iconst 0, 1) := by decide +kernel
theorem dX6_top_17 : decode cX6_top 17 = .ok (.ireturn, 1) := by decide +kernel
theorem dX6_top_18 : decode cX6_top 18 = .ok (.aload_n 0, 1) := by decide +kernel
theorem dX6_top_19 : decode cX6_top 19 = .ok (.iload_n 1, 1) := by decide +kernel
theorem dX6_top_20 : decode cX6_top 20 = .ok (.putfield 77, 3) := by decide +kernel
theorem dX6_top_23 : decode cX6_top 23 = .ok (.aload_n 0, 1) := by decide +kernel
theorem dX6_top_24 : decode cX6_top 24 = .ok (.iload_n 2, 1) := by decide +kernel
theorem dX6_top_25 : decode cX6_top 25 = .ok (.putfield 80, 3) := by decide +kernel
theorem dX6_top_28 : decode cX6_top 28 = .ok (.aload_n 0, 1) := by decide +kernel
theorem dX6_top_29 : decode cX6_top 29 = .ok (.iload_n 3, 1) := by decide +kernel
theorem dX6_top_30 : decode cX6_top 30 = .ok (.putfield 83, 3) := by decide +kernel
theorem dX6_top_33 : decode cX6_top 33 = .ok (.aload_n 0, 1) := by decide +kernel
theorem dX6_top_34 : decode cX6_top 34 = .ok (.iload 4, 2) := by decide +kernel
theorem dX6_top_36 : decode cX6_top 36 = .ok (.putfield 86, 3) := by decide +kernel
theorem dX6_top_39 : decode cX6_top 39 = .ok (.iconst 1, 1) := by decide +kernel
theorem dX6_top_40 : decode cX6_top 40 = .ok (.ireturn, 1) := by decide +kernel
theorem dX6_all_0 : decode cX6_all 0 = .ok (.aload_n 0, 1) := by decide +kernel
theorem dX6_all_1 : decode cX6_all 1 = .ok (.getfield 89, 3) := by decide +kernel
theorem dX6_all_4 : decode cX6_all 4 = .ok (.aload_n 0, 1) := by decide +kernel
theorem dX6_all_5 : decode cX6_all 5 = .ok (.getfield 92, 3) := by decide +kernel
theorem dX6_all_8 : decode cX6_all 8 = .ok (.iadd, 1) := by decide +kernel
theorem dX6_all_9 : decode cX6_all 9 = .ok (.istore_n 1, 1) := by decide +kernel
theorem dX6_all_10 : decode cX6_all 10 = .ok (.iconst 0, 1) := by decide +kernel
theorem dX6_all_11 : decode cX6_all 11 = .ok (.istore_n 2, 1) := by decide +kernel
theorem dX6_all_12 : decode cX6_all 12 = .ok (.iload_n 2, 1) := by decide +kernel
theorem dX6_all_13 : decode cX6_all 13 = .ok (.aload_n 0, 1) := by decide +kernel
theorem dX6_all_14 : decode cX6_all 14 = .ok (.getfield 95, 3) := by decide +kernel
theorem dX6_all_17 : decode cX6_all 17 = .ok (.if_icmp .ge 20, 3) := by decide +kernel
theorem dX6_all_20 : decode cX6_all 20 = .ok (.iload_n 1, 1) := by decide +kernel
theorem dX6_all_21 : decode cX6_all 21 = .ok (.aload_n 0, 1) := by decide +kernel
theorem dX6_all_22 : decode cX6_all 22 = .ok (.getfield 35, 3) := by decide +kernel
theorem dX6_all_25 : decode cX6_all 25 = .ok (.iload_n 2, 1) := by decide +kernel
theorem dX6_all_26 : decode cX6_all 26 = .ok (.iaload, 1) := by decide +kernel
theorem dX6_all_27 : decode cX6_all 27 = .ok (.iconst 1, 1) := by decide +kernel
theorem dX6_all_28 : decode cX6_all 28 = .ok (.iadd, 1) := by decide +kernel
theorem dX6_all_29 : decode cX6_all 29 = .ok (.iadd, 1) := by decide +kernel
theorem dX6_all_30 : decode cX6_all 30 = .ok (.istore_n 1, 1) := by decide +kernel
theorem dX6_all_31 : decode cX6_all 31 = .ok (.iinc 2 1, 3) := by decide +kernel
theorem dX6_all_34 : decode cX6_all 34 = .ok (.goto (-22), 3) := by decide +kernel
theorem dX6_all_37 : decode cX6_all 37 = .ok (.iload_n 1, 1) := by decide +kernel
theorem dX6_all_38 : decode cX6_all 38 = .ok (.ireturn, 1) := by decide +kernel
theorem dX6_write_0 : decode cX6_write 0 = .ok (.aload_n 0, 1) := by decide +kernel
theorem dX6_write_1 : decode cX6_write 1 = .ok (.getfield 7, 3) := by decide +kernel
theorem dX6_write_4 : decode cX6_write 4 = .ok (.iload_n 1, 1) := by decide +kernel
theorem dX6_write_5 : decode cX6_write 5 = .ok (.iload_n 2, 1) := by decide +kernel
theorem dX6_write_6 : decode cX6_write 6 = .ok (.iastore, 1) := by decide +kernel
theorem dX6_write_7 : decode cX6_write 7 = .ok (.aload_n 0, 1) := by decide +kernel
theorem dX6_write_8 : decode cX6_write 8 = .ok (.getfield 13, 3) := by decide +kernel
theorem dX6_write_11 : decode cX6_write 11 = .ok (.iload_n 1, 1) := by decide +kernel
theorem dX6_write_12 : decode cX6_write 12 = .ok (.iload_n 3, 1) := by decide +kernel
theorem dX6_write_13 : decode cX6_write 13 = .ok (.iastore, 1) := by decide +kernel
theorem dX6_write_14 : decode cX6_write 14 = .ok (.aload_n 0, 1) := by decide +kernel
theorem dX6_write_15 : decode cX6_write 15 = .ok (.getfield 16, 3) := by decide +kernel
theorem dX6_write_18 : decode cX6_write 18 = .ok (.iload_n 1, 1) := by decide +kernel
theorem dX6_write_19 : decode cX6_write 19 = .ok (.iload 4, 2) := by decide +kernel
theorem dX6_write_21 : decode cX6_write 21 = .ok (.iastore, 1) := by decide +kernel
theorem dX6_write_22 : decode cX6_write 22 = .ok (.aload_n 0, 1) := by decide +kernel
theorem dX6_write_23 : decode cX6_write 23 = .ok (.getfield 19, 3) := by decide +kernel
theorem dX6_write_26 : decode cX6_write 26 = .ok (.iload_n 1, 1) := by decide +kernel
theorem dX6_write_27 : decode cX6_write 27 = .ok (.iload 5, 2) := by decide +kernel
theorem dX6_write_29 : decode cX6_write 29 = .ok (.iastore, 1) := by decide +kernel
theorem dX6_write_30 : decode cX6_write 30 = .ok (.aload_n 0, 1) := by decide +kernel
theorem dX6_write_31 : decode cX6_write 31 = .ok (.getfield 22, 3) := by decide +kernel
theorem dX6_write_34 : decode cX6_write 34 = .ok (.iload_n 1, 1) := by decide +kernel
theorem dX6_write_35 : decode cX6_write 35 = .ok (.iload 6, 2) := by decide +kernel
theorem dX6_write_37 : decode cX6_write 37 = .ok (.iastore, 1) := by decide +kernel
theorem dX6_write_38 : decode cX6_write 38 = .ok (.aload_n 0, 1) := by decide +kernel
theorem dX6_write_39 : decode cX6_write 39 = .ok (.getfield 25, 3) := by decide +kernel
theorem dX6_write_42 : decode cX6_write 42 = .ok (.iload_n 1, 1) := by decide +kernel
theorem dX6_write_43 : decode cX6_write 43 = .ok (.iload 7, 2) := by decide +kernel
theorem dX6_write_45 : decode cX6_write 45 = .ok (.iastore, 1) := by decide +kernel
theorem dX6_write_46 : decode cX6_write 46 = .ok (.aload_n 0, 1) := by decide +kernel
theorem dX6_write_47 : decode cX6_write 47 = .ok (.getfield 28, 3) := by decide +kernel
theorem dX6_write_50 : decode cX6_write 50 = .ok (.iload_n 1, 1) := by decide +kernel
theorem dX6_write_51 : decode cX6_write 51 = .ok (.iload 8, 2) := by decide +kernel
theorem dX6_write_53 : decode cX6_write 53 = .ok (.iastore, 1) := by decide +kernel
theorem dX6_write_54 : decode cX6_write 54 = .ok (.aload_n 0, 1) := by decide +kernel
theorem dX6_write_55 : decode cX6_write 55 = .ok (.getfield 31, 3) := by decide +kernel
theorem dX6_write_58 : decode cX6_write 58 = .ok (.iload_n 1, 1) := by decide +kernel
theorem dX6_write_59 : decode cX6_write 59 = .ok (.lconst 0, 1) := by decide +kernel
theorem dX6_write_60 : decode cX6_write 60 = .ok (.lastore, 1) := by decide +kernel
theorem dX6_write_61 : decode cX6_write 61 = .ok (.return_, 1) := by decide +kernel
set_option maxRecDepth 20000 in
theorem ggX6_add_X6_all : GoodIn wsX6_add wsX6_all := goodIn_r _ [7, 2, 8, 9, 10, 23, 24, 25, 26, 27, 28, 29, 30, 31, 32, 33, 34, 35, 36, 37, 38, 39, 40, 41, 42, 43, 44, 45, 46, 47, 48, 49, 50, 51, 52, 53, 54] (by decide +kernel) (by decide +kernel)
set_option maxRecDepth 20000 in
theorem gX6_add_X6_all : GoodIn wsX6_add (wsV RX6 98 RX6 yX6_all wsX6_all) := goodIn_app (goodIn_of _ (by decide +kernel)) ggX6_add_X6_all
set_option maxRecDepth 20000 in
theorem ggX6_add_X6_write : GoodIn wsX6_add wsX6_write := goodIn_r _ [14, 15, 16, 17, 18, 19, 20, 21, 22, 23, 24, 25, 26, 27, 28, 29, 30, 31, 32, 33, 34, 35, 36, 37, 38, 39, 40, 41, 42, 43, 44, 45, 46, 47, 48, 49, 50, 51, 52, 53, 54] (by decide +kernel) (by decide +kernel)
set_option maxRecDepth 20000 in
theorem gX6_add_X6_write : GoodIn wsX6_add (wsV RX6 102 RX6 yX6_write wsX6_write) := goodIn_app (goodIn_of _ (by decide +kernel)) ggX6_add_X6_write
theorem dX6_add_0 : decode cX6_add 0 = .ok (.aload_n 0, 1) := by decide +kernel
theorem dX6_add_1 : decode cX6_add 1 = .ok (.iconst 0, 1) := by decide +kernel
theorem dX6_add_2 : decode cX6_add 2 = .ok (.putfield 54, 3) := by decide +kernel
theorem dX6_add_5 : decode cX6_add 5 = .ok (.iload_n 1, 1) := by decide +kernel
theorem dX6_add_6 : decode cX6_add 6 = .ok (.ifCond .eq 13, 3) := by decide +kernel
theorem dX6_add_9 : decode cX6_add 9 = .ok (.aload_n 0, 1) := by decide +kernel
theorem dX6_add_10 : decode cX6_add 10 = .ok (.invokevirtual 98, 3) := by decide +kernel
theorem dX6_add_13 : decode cX6_add 13 = .ok (.sipush 4000, 3) := by decide +kernel
theorem dX6_add_16 : decode cX6_add 16 = .ok (.if_icmp .lt 5, 3) := by decide +kernel
theorem dX6_add_19 : decode cX6_add 19 = .ok (.iconst 0, 1) := by decide +kernel
theorem dX6_add_20 : decode cX6_add 20 = .ok (.ireturn, 1) := by decide +kernel
theorem dX6_add_21 : decode cX6_add 21 = .ok (.aload_n 0, 1) := by decide +kernel
theorem dX6_add_22 : decode cX6_add 22 = .ok (.aload_n 0, 1) := by decide +kernel
theorem dX6_add_23 : decode cX6_add 23 = .ok (.getfield 89, 3) := by decide +kernel
theorem dX6_add_26 : decode cX6_add 26 = .ok (.iload_n 2, 1) := by decide +kernel
theorem dX6_add_27 : decode cX6_add 27 = .ok (.iload_n 3, 1) := by decide +kernel
theorem dX6_add_28 : decode cX6_add 28 = .ok (.iload 4, 2) := by decide +kernel
theorem dX6_add_30 : decode cX6_add 30 = .ok (.iload 5, 2) := by decide +kernel
theorem dX6_add_32 : decode cX6_add 32 = .ok (.iload 6, 2) := by decide +kernel
theorem dX6_add_34 : decode cX6_add 34 = .ok (.iload 7, 2) := by decide +kernel
theorem dX6_add_36 : decode cX6_add 36 = .ok (.iload 8, 2) := by decide +kernel
theorem dX6_add_38 : decode cX6_add 38 = .ok (.invokevirtual 102, 3) := by decide +kernel
theorem dX6_add_41 : decode cX6_add 41 = .ok (.aload_n 0, 1) := by decide +kernel
theorem dX6_add_42 : decode cX6_add 42 = .ok (.dup, 1) := by decide +kernel
theorem dX6_add_43 : decode cX6_add 43 = .ok (.getfield 89, 3) := by decide +kernel
theorem dX6_add_46 : decode cX6_add 46 = .ok (.iconst 1, 1) := by decide +kernel
theorem dX6_add_47 : decode cX6_add 47 = .ok (.iadd, 1) := by decide +kernel
theorem dX6_add_48 : decode cX6_add 48 = .ok (.putfield 89, 3) := by decide +kernel
theorem dX6_add_51 : decode cX6_add 51 = .ok (.iconst 1, 1) := by decide +kernel
theorem dX6_add_52 : decode cX6_add 52 = .ok (.ireturn, 1) := by decide +kernel
set_option maxRecDepth 20000 in
theorem ggX6_box_X6_isSize : GoodIn wsX6_box wsX6_isSize := goodIn_r _ [4, 5, 6] (by decide +kernel) (by decide +kernel)
set_option maxRecDepth 20000 in
theorem gX6_box_X6_isSize : GoodIn wsX6_box (va_wsS RX6 63 yX6_isSize wsX6_isSize) := goodIn_app (goodIn_of _ (by decide +kernel)) ggX6_box_X6_isSize
set_option maxRecDepth 20000 in
theorem ggX6_box_X6_add : GoodIn wsX6_box wsX6_add := goodIn_r _ [10, 11, 12, 13, 14, 15, 3, 16, 17, 18, 19, 20, 21, 22, 23, 24, 25, 26, 27, 28, 29, 30, 31, 32, 33, 34, 35, 36, 37, 38, 39, 40, 41, 42, 43, 44, 45, 46, 47, 48, 49, 50, 51, 52, 53, 54, 55, 56, 57, 58, 59, 60, 61, 62, 63] (by decide +kernel) (by decide +kernel)
set_option maxRecDepth 20000 in
theorem gX6_box_X6_add : GoodIn wsX6_box (wsV RX6 106 RX6 yX6_add wsX6_add) := goodIn_app (goodIn_of _ (by decide +kernel)) ggX6_box_X6_add
theorem dX6_box_0 : decode cX6_box 0 = .ok (.aload_n 0, 1) := by decide +kernel
theorem dX6_box_1 : decode cX6_box 1 = .ok (.iload_n 1, 1) := by decide +kernel
theorem dX6_box_2 : decode cX6_box 2 = .ok (.invokestatic 63, 3) := by decide +kernel
theorem dX6_box_5 : decode cX6_box 5 = .ok (.ifCond .eq 29, 3) := by decide +kernel
theorem dX6_box_8 : decode cX6_box 8 = .ok (.iload_n 2, 1) := by decide +kernel
theorem dX6_box_9 : decode cX6_box 9 = .ok (.invokestatic 63, 3) := by decide +kernel
theorem dX6_box_12 : decode cX6_box 12 = .ok (.ifCond .eq 22, 3) := by decide +kernel
theorem dX6_box_15 : decode cX6_box 15 = .ok (.iload_n 3, 1) := by decide +kernel
theorem dX6_box_16 : decode cX6_box 16 = .ok (.invokestatic 63, 3) := by decide +kernel
theorem dX6_box_19 : decode cX6_box 19 = .ok (.ifCond .eq 15, 3) := by decide +kernel
theorem dX6_box_22 : decode cX6_box 22 = .ok (.iload 4, 2) := by decide +kernel
theorem dX6_box_24 : decode cX6_box 24 = .ok (.invokestatic 63, 3) := by decide +kernel
theorem dX6_box_27 : decode cX6_box 27 = .ok (.ifCond .eq 7, 3) := by decide +kernel
theorem dX6_box_30 : decode cX6_box 30 = .ok (.iconst 1, 1) := by decide +kernel
theorem dX6_box_31 : decode cX6_box 31 = .ok (.goto 4, 3) := by decide +kernel
theorem dX6_box_34 : decode cX6_box 34 = .ok (.iconst 0, 1) := by decide +kernel
theorem dX6_box_35 : decode cX6_box 35 = .ok (.iconst 2, 1) := by decide +kernel
theorem dX6_box_36 : decode cX6_box 36 = .ok (.iload_n 1, 1) := by decide +kernel
theorem dX6_box_37 : decode cX6_box 37 = .ok (.iload_n 2, 1) := by decide +kernel
theorem dX6_box_38 : decode cX6_box 38 = .ok (.iload_n 3, 1) := by decide +kernel
theorem dX6_box_39 : decode cX6_box 39 = .ok (.iload 4, 2) := by decide +kernel
theorem dX6_box_41 : decode cX6_box 41 = .ok (.iconst 0, 1) := by decide +kernel
theorem dX6_box_42 : decode cX6_box 42 = .ok (.iconst 0, 1) := by decide +kernel
theorem dX6_box_43 : decode cX6_box 43 = .ok (.invokevirtual 106, 3) := by decide +kernel
theorem dX6_box_46 : decode cX6_box 46 = .ok (.ireturn, 1) := by decide +kernel
set_option maxRecDepth 20000 in
theorem ggX6_rule_X6_isSize : GoodIn wsX6_rule wsX6_isSize := goodIn_r _ [4, 5, 6] (by decide +kernel) (by decide +kernel)
set_option maxRecDepth 20000 in
theorem gX6_rule_X6_isSize : GoodIn wsX6_rule (va_wsS RX6 63 yX6_isSize wsX6_isSize) := goodIn_app (goodIn_of _ (by decide +kernel)) ggX6_rule_X6_isSize
set_option maxRecDepth 20000 in
theorem ggX6_rule_X6_add : GoodIn wsX6_rule wsX6_add := goodIn_r _ [10, 11, 12, 13, 14, 15, 3, 16, 17, 18, 19, 20, 21, 22, 23, 24, 25, 26, 27, 28, 29, 30, 31, 32, 33, 34, 35, 36, 37, 38, 39, 40, 41, 42, 43, 44, 45, 46, 47, 48, 49, 50, 51, 52, 53, 54, 55, 56, 57, 58, 59, 60, 61, 62, 63] (by decide +kernel) (by decide +kernel)
set_option maxRecDepth 20000 in
theorem gX6_rule_X6_add : GoodIn wsX6_rule (wsV RX6 106 RX6 yX6_add wsX6_add) := goodIn_app (goodIn_of _ (by decide +kernel)) ggX6_rule_X6_add
theorem dX6_rule_0 : decode cX6_rule 0 = .ok (.aload_n 0, 1) := by decide +kernel
theorem dX6_rule_1 : decode cX6_rule 1 = .ok (.iload_n 1, 1) := by decide +kernel
theorem dX6_rule_2 : decode cX6_rule 2 = .ok (.invokestatic 63, 3) := by decide +kernel
theorem dX6_rule_5 : decode cX6_rule 5 = .ok (.ifCond .eq 21, 3) := by decide +kernel
theorem dX6_rule_8 : decode cX6_rule 8 = .ok (.iload_n 2, 1) := by decide +kernel
theorem dX6_rule_9 : decode cX6_rule 9 = .ok (.invokestatic 63, 3) := by decide +kernel
theorem dX6_rule_12 : decode cX6_rule 12 = .ok (.ifCond .eq 14, 3) := by decide +kernel
theorem dX6_rule_15 : decode cX6_rule 15 = .ok (.iload_n 3, 1) := by decide +kernel
theorem dX6_rule_16 : decode cX6_rule 16 = .ok (.invokestatic 63, 3) := by decide +kernel
theorem dX6_rule_19 : decode cX6_rule 19 = .ok (.ifCond .eq 7, 3) := by decide +kernel
theorem dX6_rule_22 : decode cX6_rule 22 = .ok (.iconst 1, 1) := by decide +kernel
theorem dX6_rule_23 : decode cX6_rule 23 = .ok (.goto 4, 3) := by decide +kernel
theorem dX6_rule_26 : decode cX6_rule 26 = .ok (.iconst 0, 1) := by decide +kernel
theorem dX6_rule_27 : decode cX6_rule 27 = .ok (.iconst 4, 1) := by decide +kernel
theorem dX6_rule_28 : decode cX6_rule 28 = .ok (.iload_n 1, 1) := by decide +kernel
theorem dX6_rule_29 : decode cX6_rule 29 = .ok (.iload_n 2, 1) := by decide +kernel
theorem dX6_rule_30 : decode cX6_rule 30 = .ok (.iload_n 3, 1) := by decide +kernel
theorem dX6_rule_31 : decode cX6_rule 31 = .ok (.iconst 0, 1) := by decide +kernel
theorem dX6_rule_32 : decode cX6_rule 32 = .ok (.iconst 0, 1) := by decide +kernel
theorem dX6_rule_33 : decode cX6_rule 33 = .ok (.iconst 0, 1) := by decide +kernel
theorem dX6_rule_34 : decode cX6_rule 34 = .ok (.invokevirtual 106, 3) := by decide +kernel
theorem dX6_rule_37 : decode cX6_rule 37 = .ok (.ireturn, 1) := by decide +kernel
set_option maxRecDepth 20000 in
theorem ggX6_glue_X6_isGlue : GoodIn wsX6_glue wsX6_isGlue := goodIn_r _ [4, 5, 6, 3, 7, 8, 9] (by decide +kernel) (by decide +kernel)
set_option maxRecDepth 20000 in
theorem gX6_glue_X6_isGlue : GoodIn wsX6_glue (va_wsS RX6 73 yX6_isGlue wsX6_isGlue) := goodIn_app (goodIn_of _ (by decide +kernel)) ggX6_glue_X6_isGlue
set_option maxRecDepth 20000 in
theorem ggX6_glue_X6_add : GoodIn wsX6_glue wsX6_add := goodIn_r _ [13, 14, 15, 16, 17, 18, 3, 19, 20, 21, 22, 23, 24, 25, 26, 27, 28, 29, 30, 31, 32, 33, 34, 35, 36, 37, 38, 39, 40, 41, 42, 43, 44, 45, 46, 47, 48, 49, 50, 51, 52, 53, 54, 55, 56, 57, 58, 59, 60, 61, 62, 63, 64, 65, 66] (by decide +kernel) (by decide +kernel)
set_option maxRecDepth 20000 in
theorem gX6_glue_X6_add : GoodIn wsX6_glue (wsV RX6 106 RX6 yX6_add wsX6_add) := goodIn_app (goodIn_of _ (by decide +kernel)) ggX6_glue_X6_add
theorem dX6_glue_0 : decode cX6_glue 0 = .ok (.aload_n 0, 1) := by decide +kernel
theorem dX6_glue_1 : decode cX6_glue 1 = .ok (.iload_n 1, 1) := by decide +kernel
theorem dX6_glue_2 : decode cX6_glue 2 = .ok (.iload_n 2, 1) := by decide +kernel
theorem dX6_glue_3 : decode cX6_glue 3 = .ok (.iload_n 3, 1) := by decide +kernel
theorem dX6_glue_4 : decode cX6_glue 4 = .ok (.iload 4, 2) := by decide +kernel
theorem dX6_glue_6 : decode cX6_glue 6 = .ok (.invokestatic 73, 3) := by decide +kernel
theorem dX6_glue_9 : decode cX6_glue 9 = .ok (.iconst 5, 1) := by decide +kernel
theorem dX6_glue_10 : decode cX6_glue 10 = .ok (.iload_n 1, 1) := by decide +kernel
theorem dX6_glue_11 : decode cX6_glue 11 = .ok (.iconst 0, 1) := by decide +kernel
theorem dX6_glue_12 : decode cX6_glue 12 = .ok (.iconst 0, 1) := by decide +kernel
theorem dX6_glue_13 : decode cX6_glue 13 = .ok (.iload_n 2, 1) := by decide +kernel
theorem dX6_glue_14 : decode cX6_glue 14 = .ok (.iload_n 3, 1) := by decide +kernel
theorem dX6_glue_15 : decode cX6_glue 15 = .ok (.iload 4, 2) := by decide +kernel
theorem dX6_glue_17 : decode cX6_glue 17 = .ok (.invokevirtual 106, 3) := by decide +kernel
theorem dX6_glue_20 : decode cX6_glue 20 = .ok (.ireturn, 1) := by decide +kernel
set_option maxRecDepth 20000 in
theorem ggX6_kern_X6_isSize : GoodIn wsX6_kern wsX6_isSize := goodIn_r _ [4, 5, 6] (by decide +kernel) (by decide +kernel)
set_option maxRecDepth 20000 in
theorem gX6_kern_X6_isSize : GoodIn wsX6_kern (va_wsS RX6 63 yX6_isSize wsX6_isSize) := goodIn_app (goodIn_of _ (by decide +kernel)) ggX6_kern_X6_isSize
set_option maxRecDepth 20000 in
theorem ggX6_kern_X6_add : GoodIn wsX6_kern wsX6_add := goodIn_r _ [10, 11, 12, 13, 14, 15, 3, 16, 17, 18, 19, 20, 21, 22, 23, 24, 25, 26, 27, 28, 29, 30, 31, 32, 33, 34, 35, 36, 37, 38, 39, 40, 41, 42, 43, 44, 45, 46, 47, 48, 49, 50, 51, 52, 53, 54, 55, 56, 57, 58, 59, 60, 61, 62, 63] (by decide +kernel) (by decide +kernel)
set_option maxRecDepth 20000 in
theorem gX6_kern_X6_add : GoodIn wsX6_kern (wsV RX6 106 RX6 yX6_add wsX6_add) := goodIn_app (goodIn_of _ (by decide +kernel)) ggX6_kern_X6_add
theorem dX6_kern_0 : decode cX6_kern 0 = .ok (.aload_n 0, 1) := by decide +kernel
theorem dX6_kern_1 : decode cX6_kern 1 = .ok (.iload_n 1, 1) := by decide +kernel
theorem dX6_kern_2 : decode cX6_kern 2 = .ok (.invokestatic 63, 3) := by decide +kernel
theorem dX6_kern_5 : decode cX6_kern 5 = .ok (.bipush 6, 2) := by decide +kernel
theorem dX6_kern_7 : decode cX6_kern 7 = .ok (.iload_n 1, 1) := by decide +kernel
theorem dX6_kern_8 : decode cX6_kern 8 = .ok (.iconst 0, 1) := by decide +kernel
theorem dX6_kern_9 : decode cX6_kern 9 = .ok (.iconst 0, 1) := by decide +kernel
theorem dX6_kern_10 : decode cX6_kern 10 = .ok (.iconst 0, 1) := by decide +kernel
theorem dX6_kern_11 : decode cX6_kern 11 = .ok (.iconst 0, 1) := by decide +kernel
theorem dX6_kern_12 : decode cX6_kern 12 = .ok (.iconst 0, 1) := by decide +kernel
theorem dX6_kern_13 : decode cX6_kern 13 = .ok (.invokevirtual 106, 3) := by decide +kernel
theorem dX6_kern_16 : decode cX6_kern 16 = .ok (.ireturn, 1) := by decide +kernel
set_option maxRecDepth 20000 in
theorem ggX6_penalty_X6_add : GoodIn wsX6_penalty wsX6_add := goodIn_r _ [5, 6, 7, 8, 9, 10, 4, 11, 12, 13, 14, 15, 16, 17, 18, 19, 20, 21, 22, 23, 24, 25, 26, 27, 28, 29, 30, 31, 32, 33, 34, 35, 36, 37, 38, 39, 40, 41, 42, 43, 44, 45, 46, 47, 48, 49, 50, 51, 52, 53, 54, 55, 56, 57, 58] (by decide +kernel) (by decide +kernel)
set_option maxRecDepth 20000 in
theorem gX6_penalty_X6_add : GoodIn wsX6_penalty (wsV RX6 106 RX6 yX6_add wsX6_add) := goodIn_app (goodIn_of _ (by decide +kernel)) ggX6_penalty_X6_add
theorem dX6_penalty_0 : decode cX6_penalty 0 = .ok (.aload_n 0, 1) := by decide +kernel
theorem dX6_penalty_1 : decode cX6_penalty 1 = .ok (.iconst 1, 1) := by decide +kernel
theorem dX6_penalty_2 : decode cX6_penalty 2 = .ok (.bipush 7, 2) := by decide +kernel
theorem dX6_penalty_4 : decode cX6_penalty 4 = .ok (.iload_n 1, 1) := by decide +kernel
theorem dX6_penalty_5 : decode cX6_penalty 5 = .ok (.iconst 0, 1) := by decide +kernel
theorem dX6_penalty_6 : decode cX6_penalty 6 = .ok (.iconst 0, 1) := by decide +kernel
theorem dX6_penalty_7 : decode cX6_penalty 7 = .ok (.iconst 0, 1) := by decide +kernel
theorem dX6_penalty_8 : decode cX6_penalty 8 = .ok (.iconst 0, 1) := by decide +kernel
theorem dX6_penalty_9 : decode cX6_penalty 9 = .ok (.iconst 0, 1) := by decide +kernel
theorem dX6_penalty_10 : decode cX6_penalty 10 = .ok (.invokevirtual 106, 3) := by decide +kernel
theorem dX6_penalty_13 : decode cX6_penalty 13 = .ok (.ireturn, 1) := by decide +kernel
set_option maxRecDepth 20000 in
theorem ggX6_move_X6_write : GoodIn wsX6_move wsX6_write := goodIn_r _ [13, 1, 2, 3, 4, 5, 6, 7, 8, 14, 15, 16, 17, 18, 19, 20, 21, 22, 23, 24, 25, 26, 27, 28, 29, 30, 31, 32, 33, 34, 35, 36, 37, 38, 39, 40, 41, 42, 43, 44, 45] (by decide +kernel) (by decide +kernel)
set_option maxRecDepth 20000 in
theorem gX6_move_X6_write : GoodIn wsX6_move (wsV RX6 102 RX6 yX6_write wsX6_write) := goodIn_app (goodIn_of _ (by decide +kernel)) ggX6_move_X6_write
theorem dX6_move_0 : decode cX6_move 0 = .ok (.aload_n 0, 1) := by decide +kernel
theorem dX6_move_1 : decode cX6_move 1 = .ok (.iload_n 2, 1) := by decide +kernel
theorem dX6_move_2 : decode cX6_move 2 = .ok (.aload_n 0, 1) := by decide +kernel
theorem dX6_move_3 : decode cX6_move 3 = .ok (.getfield 7, 3) := by decide +kernel
theorem dX6_move_6 : decode cX6_move 6 = .ok (.iload_n 1, 1) := by decide +kernel
theorem dX6_move_7 : decode cX6_move 7 = .ok (.iaload, 1) := by decide +kernel
theorem dX6_move_8 : decode cX6_move 8 = .ok (.aload_n 0, 1) := by decide +kernel
theorem dX6_move_9 : decode cX6_move 9 = .ok (.getfield 13, 3) := by decide +kernel
theorem dX6_move_12 : decode cX6_move 12 = .ok (.iload_n 1, 1) := by decide +kernel
theorem dX6_move_13 : decode cX6_move 13 = .ok (.iaload, 1) := by decide +kernel
theorem dX6_move_14 : decode cX6_move 14 = .ok (.aload_n 0, 1) := by decide +kernel
theorem dX6_move_15 : decode cX6_move 15 = .ok (.getfield 16, 3) := by decide +kernel
theorem dX6_move_18 : decode cX6_move 18 = .ok (.iload_n 1, 1) := by decide +kernel
theorem dX6_move_19 : decode cX6_move 19 = .ok (.iaload, 1) := by decide +kernel
theorem dX6_move_20 : decode cX6_move 20 = .ok (.aload_n 0, 1) := by decide +kernel
theorem dX6_move_21 : decode cX6_move 21 = .ok (.getfield 19, 3) := by decide +kernel
theorem dX6_move_24 : decode cX6_move 24 = .ok (.iload_n 1, 1) := by decide +kernel
theorem dX6_move_25 : decode cX6_move 25 = .ok (.iaload, 1) := by decide +kernel
theorem dX6_move_26 : decode cX6_move 26 = .ok (.aload_n 0, 1) := by decide +kernel
theorem dX6_move_27 : decode cX6_move 27 = .ok (.getfield 22, 3) := by decide +kernel
theorem dX6_move_30 : decode cX6_move 30 = .ok (.iload_n 1, 1) := by decide +kernel
theorem dX6_move_31 : decode cX6_move 31 = .ok (.iaload, 1) := by decide +kernel
theorem dX6_move_32 : decode cX6_move 32 = .ok (.aload_n 0, 1) := by decide +kernel
theorem dX6_move_33 : decode cX6_move 33 = .ok (.getfield 25, 3) := by decide +kernel
theorem dX6_move_36 : decode cX6_move 36 = .ok (.iload_n 1, 1) := by decide +kernel
theorem dX6_move_37 : decode cX6_move 37 = .ok (.iaload, 1) := by decide +kernel
theorem dX6_move_38 : decode cX6_move 38 = .ok (.aload_n 0, 1) := by decide +kernel
theorem dX6_move_39 : decode cX6_move 39 = .ok (.getfield 28, 3) := by decide +kernel
theorem dX6_move_42 : decode cX6_move 42 = .ok (.iload_n 1, 1) := by decide +kernel
theorem dX6_move_43 : decode cX6_move 43 = .ok (.iaload, 1) := by decide +kernel
theorem dX6_move_44 : decode cX6_move 44 = .ok (.invokevirtual 102, 3) := by decide +kernel
theorem dX6_move_47 : decode cX6_move 47 = .ok (.aload_n 0, 1) := by decide +kernel
theorem dX6_move_48 : decode cX6_move 48 = .ok (.getfield 31, 3) := by decide +kernel
theorem dX6_move_51 : decode cX6_move 51 = .ok (.iload_n 2, 1) := by decide +kernel
theorem dX6_move_52 : decode cX6_move 52 = .ok (.aload_n 0, 1) := by decide +kernel
theorem dX6_move_53 : decode cX6_move 53 = .ok (.getfield 31, 3) := by decide +kernel
theorem dX6_move_56 : decode cX6_move 56 = .ok (.iload_n 1, 1) := by decide +kernel
theorem dX6_move_57 : decode cX6_move 57 = .ok (.laload, 1) := by decide +kernel
theorem dX6_move_58 : decode cX6_move 58 = .ok (.lastore, 1) := by decide +kernel
theorem dX6_move_59 : decode cX6_move 59 = .ok (.return_, 1) := by decide +kernel
set_option maxRecDepth 20000 in
theorem ggX6_take_X6_move : GoodIn wsX6_take wsX6_move := goodIn_r _ [6, 7, 8, 9, 10, 11, 12, 13, 14, 15, 16, 17, 5, 18, 19, 20, 21, 22, 23, 24, 25, 26, 27, 28, 29, 30, 31, 32, 33, 34, 35, 36, 37, 38, 39, 40, 41, 42, 43, 44, 45, 46, 47, 48, 49, 50] (by decide +kernel) (by decide +kernel)
set_option maxRecDepth 20000 in
theorem gX6_take_X6_move : GoodIn wsX6_take (wsV RX6 110 RX6 yX6_move wsX6_move) := goodIn_app (goodIn_of _ (by decide +kernel)) ggX6_take_X6_move
theorem dX6_take_0 : decode cX6_take 0 = .ok (.iload_n 1, 1) := by decide +kernel
theorem dX6_take_1 : decode cX6_take 1 = .ok (.istore_n 2, 1) := by decide +kernel
theorem dX6_take_2 : decode cX6_take 2 = .ok (.iload_n 2, 1) := by decide +kernel
theorem dX6_take_3 : decode cX6_take 3 = .ok (.aload_n 0, 1) := by decide +kernel
theorem dX6_take_4 : decode cX6_take 4 = .ok (.getfield 89, 3) := by decide +kernel
theorem dX6_take_7 : decode cX6_take 7 = .ok (.if_icmp .ge 17, 3) := by decide +kernel
theorem dX6_take_10 : decode cX6_take 10 = .ok (.aload_n 0, 1) := by decide +kernel
theorem dX6_take_11 : decode cX6_take 11 = .ok (.iload_n 2, 1) := by decide +kernel
theorem dX6_take_12 : decode cX6_take 12 = .ok (.iload_n 2, 1) := by decide +kernel
theorem dX6_take_13 : decode cX6_take 13 = .ok (.iload_n 1, 1) := by decide +kernel
theorem dX6_take_14 : decode cX6_take 14 = .ok (.isub, 1) := by decide +kernel
theorem dX6_take_15 : decode cX6_take 15 = .ok (.invokevirtual 110, 3) := by decide +kernel
theorem dX6_take_18 : decode cX6_take 18 = .ok (.iinc 2 1, 3) := by decide +kernel
theorem dX6_take_21 : decode cX6_take 21 = .ok (.goto (-19), 3) := by decide +kernel
theorem dX6_take_24 : decode cX6_take 24 = .ok (.aload_n 0, 1) := by decide +kernel
theorem dX6_take_25 : decode cX6_take 25 = .ok (.dup, 1) := by decide +kernel
theorem dX6_take_26 : decode cX6_take 26 = .ok (.getfield 89, 3) := by decide +kernel
theorem dX6_take_29 : decode cX6_take 29 = .ok (.iload_n 1, 1) := by decide +kernel
theorem dX6_take_30 : decode cX6_take 30 = .ok (.isub, 1) := by decide +kernel
theorem dX6_take_31 : decode cX6_take 31 = .ok (.putfield 89, 3) := by decide +kernel
theorem dX6_take_34 : decode cX6_take 34 = .ok (.return_, 1) := by decide +kernel
theorem dX6_isSolid_0 : decode cX6_isSolid 0 = .ok (.aload_n 0, 1) := by decide +kernel
theorem dX6_isSolid_1 : decode cX6_isSolid 1 = .ok (.getfield 7, 3) := by decide +kernel
theorem dX6_isSolid_4 : decode cX6_isSolid 4 = .ok (.iload_n 1, 1) := by decide +kernel
theorem dX6_isSolid_5 : decode cX6_isSolid 5 = .ok (.iaload, 1) := by decide +kernel
theorem dX6_isSolid_6 : decode cX6_isSolid 6 = .ok (.iconst 2, 1) := by decide +kernel
theorem dX6_isSolid_7 : decode cX6_isSolid 7 = .ok (.if_icmp .eq 13, 3) := by decide +kernel
theorem dX6_isSolid_10 : decode cX6_isSolid 10 = .ok (.aload_n 0, 1) := by decide +kernel
theorem dX6_isSolid_11 : decode cX6_isSolid 11 = .ok (.getfield 7, 3) := by decide +kernel
theorem dX6_isSolid_14 : decode cX6_isSolid 14 = .ok (.iload_n 1, 1) := by decide +kernel
theorem dX6_isSolid_15 : decode cX6_isSolid 15 = .ok (.iaload, 1) := by decide +kernel
theorem dX6_isSolid_16 : decode cX6_isSolid 16 = .ok (.iconst 4, 1) := by decide +kernel
theorem dX6_isSolid_17 : decode cX6_isSolid 17 = .ok (.if_icmp .ne 7, 3) := by decide +kernel
theorem dX6_isSolid_20 : decode cX6_isSolid 20 = .ok (.iconst 1, 1) := by decide +kernel
theorem dX6_isSolid_21 : decode cX6_isSolid 21 = .ok (.goto 4, 3) := by decide +kernel
theorem dX6_isSolid_24 : decode cX6_isSolid 24 = .ok (.iconst 0, 1) := by decide +kernel
theorem dX6_isSolid_25 : decode cX6_isSolid 25 = .ok (.ireturn, 1) := by decide +kernel
set_option maxRecDepth 20000 in
theorem ggX6_sums_X6_isSolid : GoodIn wsX6_sums wsX6_isSolid := goodIn_r _ [17, 8, 18, 19, 20, 21, 22, 23, 24, 25, 26, 27, 28, 29, 30, 31, 32, 33, 34, 35, 36, 37, 38, 39, 40, 41, 42, 43, 44, 45, 46, 47, 48, 49] (by decide +kernel) (by decide +kernel)
set_option maxRecDepth 20000 in
theorem gX6_sums_X6_isSolid : GoodIn wsX6_sums (wsV RX6 127 RX6 yX6_isSolid wsX6_isSolid) := goodIn_app (goodIn_of _ (by decide +kernel)) ggX6_sums_X6_isSolid
theorem dX6_sums_0 : decode cX6_sums 0 = .ok (.aload_n 0, 1) := by decide +kernel
theorem dX6_sums_1 : decode cX6_sums 1 = .ok (.lconst 0, 1) := by decide +kernel
theorem dX6_sums_2 : decode cX6_sums 2 = .ok (.putfield 114, 3) := by decide +kernel
theorem dX6_sums_5 : decode cX6_sums 5 = .ok (.aload_n 0, 1) := by decide +kernel
theorem dX6_sums_6 : decode cX6_sums 6 = .ok (.lconst 0, 1) := by decide +kernel
theorem dX6_sums_7 : decode cX6_sums 7 = .ok (.putfield 118, 3) := by decide +kernel
theorem dX6_sums_10 : decode cX6_sums 10 = .ok (.aload_n 0, 1) := by decide +kernel
theorem dX6_sums_11 : decode cX6_sums 11 = .ok (.lconst 0, 1) := by decide +kernel
theorem dX6_sums_12 : decode cX6_sums 12 = .ok (.putfield 121, 3) := by decide +kernel
theorem dX6_sums_15 : decode cX6_sums 15 = .ok (.aload_n 0, 1) := by decide +kernel
theorem dX6_sums_16 : decode cX6_sums 16 = .ok (.lconst 0, 1) := by decide +kernel
theorem dX6_sums_17 : decode cX6_sums 17 = .ok (.putfield 124, 3) := by decide +kernel
theorem dX6_sums_20 : decode cX6_sums 20 = .ok (.iconst 0, 1) := by decide +kernel
theorem dX6_sums_21 : decode cX6_sums 21 = .ok (.istore 4, 2) := by decide +kernel
theorem dX6_sums_23 : decode cX6_sums 23 = .ok (.iload 4, 2) := by decide +kernel
theorem dX6_sums_25 : decode cX6_sums 25 = .ok (.iconst 4, 1) := by decide +kernel
theorem dX6_sums_26 : decode cX6_sums 26 = .ok (.if_icmp .ge 17, 3) := by decide +kernel
theorem dX6_sums_29 : decode cX6_sums 29 = .ok (.aload_n 0, 1) := by decide +kernel
theorem dX6_sums_30 : decode cX6_sums 30 = .ok (.getfield 51, 3) := by decide +kernel
theorem dX6_sums_33 : decode cX6_sums 33 = .ok (.iload 4, 2) := by decide +kernel
theorem dX6_sums_35 : decode cX6_sums 35 = .ok (.lconst 0, 1) := by decide +kernel
theorem dX6_sums_36 : decode cX6_sums 36 = .ok (.lastore, 1) := by decide +kernel
theorem dX6_sums_37 : decode cX6_sums 37 = .ok (.iinc 4 1, 3) := by decide +kernel
theorem dX6_sums_40 : decode cX6_sums 40 = .ok (.goto (-17), 3) := by decide +kernel
theorem dX6_sums_43 : decode cX6_sums 43 = .ok (.iload_n 1, 1) := by decide +kernel
theorem dX6_sums_44 : decode cX6_sums 44 = .ok (.istore 4, 2) := by decide +kernel
theorem dX6_sums_46 : decode cX6_sums 46 = .ok (.iload 4, 2) := by decide +kernel
theorem dX6_sums_48 : decode cX6_sums 48 = .ok (.iload_n 1, 1) := by decide +kernel
theorem dX6_sums_49 : decode cX6_sums 49 = .ok (.iload_n 2, 1) := by decide +kernel
theorem dX6_sums_50 : decode cX6_sums 50 = .ok (.iadd, 1) := by decide +kernel
theorem dX6_sums_51 : decode cX6_sums 51 = .ok (.if_icmp .ge 209, 3) := by decide +kernel
theorem dX6_sums_54 : decode cX6_sums 54 = .ok (.aload_n 0, 1) := by decide +kernel
theorem dX6_sums_55 : decode cX6_sums 55 = .ok (.iload 4, 2) := by decide +kernel
theorem dX6_sums_57 : decode cX6_sums 57 = .ok (.invokevirtual 127, 3) := by decide +kernel
theorem dX6_sums_60 : decode cX6_sums 60 = .ok (.istore 5, 2) := by decide +kernel
theorem dX6_sums_62 : decode cX6_sums 62 = .ok (.aload_n 0, 1) := by decide +kernel
theorem dX6_sums_63 : decode cX6_sums 63 = .ok (.dup, 1) := by decide +kernel
theorem dX6_sums_64 : decode cX6_sums 64 = .ok (.getfield 114, 3) := by decide +kernel
theorem dX6_sums_67 : decode cX6_sums 67 = .ok (.iload 5, 2) := by decide +kernel
theorem dX6_sums_69 : decode cX6_sums 69 = .ok (.ifCond .eq 23, 3) := by decide +kernel
theorem dX6_sums_72 : decode cX6_sums 72 = .ok (.aload_n 0, 1) := by decide +kernel
theorem dX6_sums_73 : decode cX6_sums 73 = .ok (.getfield 16, 3) := by decide +kernel
theorem dX6_sums_76 : decode cX6_sums 76 = .ok (.iload 4, 2) := by decide +kernel
theorem dX6_sums_78 : decode cX6_sums 78 = .ok (.iaload, 1) := by decide +kernel
theorem dX6_sums_79 : decode cX6_sums 79 = .ok (.i2l, 1) := by decide +kernel
theorem dX6_sums_80 : decode cX6_sums 80 = .ok (.aload_n 0, 1) := by decide +kernel
theorem dX6_sums_81 : decode cX6_sums 81 = .ok (.getfield 19, 3) := by decide +kernel
theorem dX6_sums_84 : decode cX6_sums 84 = .ok (.iload 4, 2) := by decide +kernel
theorem dX6_sums_86 : decode cX6_sums 86 = .ok (.iaload, 1) := by decide +kernel
theorem dX6_sums_87 : decode cX6_sums 87 = .ok (.i2l, 1) := by decide +kernel
theorem dX6_sums_88 : decode cX6_sums 88 = .ok (.ladd, 1) := by decide +kernel
theorem dX6_sums_89 : decode cX6_sums 89 = .ok (.goto 27, 3) := by decide +kernel
theorem dX6_sums_92 : decode cX6_sums 92 = .ok (.aload_n 0, 1) := by decide +kernel
theorem dX6_sums_93 : decode cX6_sums 93 = .ok (.getfield 7, 3) := by decide +kernel
theorem dX6_sums_96 : decode cX6_sums 96 = .ok (.iload 4, 2) := by decide +kernel
theorem dX6_sums_98 : decode cX6_sums 98 = .ok (.iaload, 1) := by decide +kernel
theorem dX6_sums_99 : decode cX6_sums 99 = .ok (.bipush 7, 2) := by decide +kernel
theorem dX6_sums_101 : decode cX6_sums 101 = .ok (.if_icmp .ne 7, 3) := by decide +kernel
theorem dX6_sums_104 : decode cX6_sums 104 = .ok (.lconst 0, 1) := by decide +kernel
theorem dX6_sums_105 : decode cX6_sums 105 = .ok (.goto 11, 3) := by decide +kernel
theorem dX6_sums_108 : decode cX6_sums 108 = .ok (.aload_n 0, 1) := by decide +kernel
theorem dX6_sums_109 : decode cX6_sums 109 = .ok (.getfield 13, 3) := by decide +kernel
theorem dX6_sums_112 : decode cX6_sums 112 = .ok (.iload 4, 2) := by decide +kernel
theorem dX6_sums_114 : decode cX6_sums 114 = .ok (.iaload, 1) := by decide +kernel
theorem dX6_sums_115 : decode cX6_sums 115 = .ok (.i2l, 1) := by decide +kernel
theorem dX6_sums_116 : decode cX6_sums 116 = .ok (.ladd, 1) := by decide +kernel
theorem dX6_sums_117 : decode cX6_sums 117 = .ok (.putfield 114, 3) := by decide +kernel
theorem dX6_sums_120 : decode cX6_sums 120 = .ok (.aload_n 0, 1) := by decide +kernel
theorem dX6_sums_121 : decode cX6_sums 121 = .ok (.getfield 7, 3) := by decide +kernel
theorem dX6_sums_124 : decode cX6_sums 124 = .ok (.iload 4, 2) := by decide +kernel
theorem dX6_sums_126 : decode cX6_sums 126 = .ok (.iaload, 1) := by decide +kernel
theorem dX6_sums_127 : decode cX6_sums 127 = .ok (.iconst 5, 1) := by decide +kernel
theorem dX6_sums_128 : decode cX6_sums 128 = .ok (.if_icmp .ne 43, 3) := by decide +kernel
theorem dX6_sums_131 : decode cX6_sums 131 = .ok (.aload_n 0, 1) := by decide +kernel
theorem dX6_sums_132 : decode cX6_sums 132 = .ok (.getfield 51, 3) := by decide +kernel
theorem dX6_sums_135 : decode cX6_sums 135 = .ok (.aload_n 0, 1) := by decide +kernel
theorem dX6_sums_136 : decode cX6_sums 136 = .ok (.getfield 25, 3) := by decide +kernel
theorem dX6_sums_139 : decode cX6_sums 139 = .ok (.iload 4, 2) := by decide +kernel
theorem dX6_sums_141 : decode cX6_sums 141 = .ok (.iaload, 1) := by decide +kernel
theorem dX6_sums_142 : decode cX6_sums 142 = .ok (.dup2, 1) := by decide +kernel
theorem dX6_sums_143 : decode cX6_sums 143 = .ok (.laload, 1) := by decide +kernel
theorem dX6_sums_144 : decode cX6_sums 144 = .ok (.aload_n 0, 1) := by decide +kernel
theorem dX6_sums_145 : decode cX6_sums 145 = .ok (.getfield 22, 3) := by decide +kernel
theorem dX6_sums_148 : decode cX6_sums 148 = .ok (.iload 4, 2) := by decide +kernel
theorem dX6_sums_150 : decode cX6_sums 150 = .ok (.iaload, 1) := by decide +kernel
theorem dX6_sums_151 : decode cX6_sums 151 = .ok (.i2l, 1) := by decide +kernel
theorem dX6_sums_152 : decode cX6_sums 152 = .ok (.ladd, 1) := by decide +kernel
theorem dX6_sums_153 : decode cX6_sums 153 = .ok (.lastore, 1) := by decide +kernel
theorem dX6_sums_154 : decode cX6_sums 154 = .ok (.aload_n 0, 1) := by decide +kernel
theorem dX6_sums_155 : decode cX6_sums 155 = .ok (.dup, 1) := by decide +kernel
theorem dX6_sums_156 : decode cX6_sums 156 = .ok (.getfield 124, 3) := by decide +kernel
theorem dX6_sums_159 : decode cX6_sums 159 = .ok (.aload_n 0, 1) := by decide +kernel
theorem dX6_sums_160 : decode cX6_sums 160 = .ok (.getfield 28, 3) := by decide +kernel
theorem dX6_sums_163 : decode cX6_sums 163 = .ok (.iload 4, 2) := by decide +kernel
theorem dX6_sums_165 : decode cX6_sums 165 = .ok (.iaload, 1) := by decide +kernel
theorem dX6_sums_166 : decode cX6_sums 166 = .ok (.i2l, 1) := by decide +kernel
theorem dX6_sums_167 : decode cX6_sums 167 = .ok (.ladd, 1) := by decide +kernel
theorem dX6_sums_168 : decode cX6_sums 168 = .ok (.putfield 124, 3) := by decide +kernel
theorem dX6_sums_171 : decode cX6_sums 171 = .ok (.aload_n 0, 1) := by decide +kernel
theorem dX6_sums_172 : decode cX6_sums 172 = .ok (.getfield 13, 3) := by decide +kernel
theorem dX6_sums_175 : decode cX6_sums 175 = .ok (.iload 4, 2) := by decide +kernel
theorem dX6_sums_177 : decode cX6_sums 177 = .ok (.iaload, 1) := by decide +kernel
theorem dX6_sums_178 : decode cX6_sums 178 = .ok (.i2l, 1) := by decide +kernel
theorem dX6_sums_179 : decode cX6_sums 179 = .ok (.aload_n 0, 1) := by decide +kernel
theorem dX6_sums_180 : decode cX6_sums 180 = .ok (.getfield 7, 3) := by decide +kernel
theorem dX6_sums_183 : decode cX6_sums 183 = .ok (.iload 4, 2) := by decide +kernel
theorem dX6_sums_185 : decode cX6_sums 185 = .ok (.iaload, 1) := by decide +kernel
theorem dX6_sums_186 : decode cX6_sums 186 = .ok (.iconst 2, 1) := by decide +kernel
theorem dX6_sums_187 : decode cX6_sums 187 = .ok (.if_icmp .ne 13, 3) := by decide +kernel
theorem dX6_sums_190 : decode cX6_sums 190 = .ok (.aload_n 0, 1) := by decide +kernel
theorem dX6_sums_191 : decode cX6_sums 191 = .ok (.getfield 22, 3) := by decide +kernel
theorem dX6_sums_194 : decode cX6_sums 194 = .ok (.iload 4, 2) := by decide +kernel
theorem dX6_sums_196 : decode cX6_sums 196 = .ok (.iaload, 1) := by decide +kernel
theorem dX6_sums_197 : decode cX6_sums 197 = .ok (.goto 4, 3) := by decide +kernel
theorem dX6_sums_200 : decode cX6_sums 200 = .ok (.iconst 0, 1) := by decide +kernel
theorem dX6_sums_201 : decode cX6_sums 201 = .ok (.i2l, 1) := by decide +kernel
theorem dX6_sums_202 : decode cX6_sums 202 = .ok (.ladd, 1) := by decide +kernel
theorem dX6_sums_203 : decode cX6_sums 203 = .ok (.lstore 6, 2) := by decide +kernel
theorem dX6_sums_205 : decode cX6_sums 205 = .ok (.aload_n 0, 1) := by decide +kernel
theorem dX6_sums_206 : decode cX6_sums 206 = .ok (.iload 5, 2) := by decide +kernel
theorem dX6_sums_208 : decode cX6_sums 208 = .ok (.ifCond .eq 18, 3) := by decide +kernel
theorem dX6_sums_211 : decode cX6_sums 211 = .ok (.lload 6, 2) := by decide +kernel
theorem dX6_sums_213 : decode cX6_sums 213 = .ok (.aload_n 0, 1) := by decide +kernel
theorem dX6_sums_214 : decode cX6_sums 214 = .ok (.getfield 121, 3) := by decide +kernel
theorem dX6_sums_217 : decode cX6_sums 217 = .ok (.lcmp, 1) := by decide +kernel
theorem dX6_sums_218 : decode cX6_sums 218 = .ok (.ifCond .le 8, 3) := by decide +kernel
theorem dX6_sums_221 : decode cX6_sums 221 = .ok (.lload 6, 2) := by decide +kernel
theorem dX6_sums_223 : decode cX6_sums 223 = .ok (.goto 7, 3) := by decide +kernel
theorem dX6_sums_226 : decode cX6_sums 226 = .ok (.aload_n 0, 1) := by decide +kernel
theorem dX6_sums_227 : decode cX6_sums 227 = .ok (.getfield 121, 3) := by decide +kernel
theorem dX6_sums_230 : decode cX6_sums 230 = .ok (.putfield 121, 3) := by decide +kernel
theorem dX6_sums_233 : decode cX6_sums 233 = .ok (.aload_n 0, 1) := by decide +kernel
theorem dX6_sums_234 : decode cX6_sums 234 = .ok (.iload 5, 2) := by decide +kernel
theorem dX6_sums_236 : decode cX6_sums 236 = .ok (.ifCond .eq 14, 3) := by decide +kernel
theorem dX6_sums_239 : decode cX6_sums 239 = .ok (.aload_n 0, 1) := by decide +kernel
theorem dX6_sums_240 : decode cX6_sums 240 = .ok (.getfield 19, 3) := by decide +kernel
theorem dX6_sums_243 : decode cX6_sums 243 = .ok (.iload 4, 2) := by decide +kernel
theorem dX6_sums_245 : decode cX6_sums 245 = .ok (.iaload, 1) := by decide +kernel
theorem dX6_sums_246 : decode cX6_sums 246 = .ok (.i2l, 1) := by decide +kernel
theorem dX6_sums_247 : decode cX6_sums 247 = .ok (.goto 4, 3) := by decide +kernel
theorem dX6_sums_250 : decode cX6_sums 250 = .ok (.lconst 0, 1) := by decide +kernel
theorem dX6_sums_251 : decode cX6_sums 251 = .ok (.putfield 118, 3) := by decide +kernel
theorem dX6_sums_254 : decode cX6_sums 254 = .ok (.iinc 4 1, 3) := by decide +kernel
theorem dX6_sums_257 : decode cX6_sums 257 = .ok (.goto (-211), 3) := by decide +kernel
theorem dX6_sums_260 : decode cX6_sums 260 = .ok (.aload_n 0, 1) := by decide +kernel
theorem dX6_sums_261 : decode cX6_sums 261 = .ok (.dup, 1) := by decide +kernel
theorem dX6_sums_262 : decode cX6_sums 262 = .ok (.getfield 114, 3) := by decide +kernel
theorem dX6_sums_265 : decode cX6_sums 265 = .ok (.aload_n 0, 1) := by decide +kernel
theorem dX6_sums_266 : decode cX6_sums 266 = .ok (.getfield 118, 3) := by decide +kernel
theorem dX6_sums_269 : decode cX6_sums 269 = .ok (.lsub, 1) := by decide +kernel
theorem dX6_sums_270 : decode cX6_sums 270 = .ok (.putfield 114, 3) := by decide +kernel
theorem dX6_sums_273 : decode cX6_sums 273 = .ok (.aload_n 0, 1) := by decide +kernel
theorem dX6_sums_274 : decode cX6_sums 274 = .ok (.getfield 118, 3) := by decide +kernel
theorem dX6_sums_277 : decode cX6_sums 277 = .ok (.iload_n 3, 1) := by decide +kernel
theorem dX6_sums_278 : decode cX6_sums 278 = .ok (.i2l, 1) := by decide +kernel
theorem dX6_sums_279 : decode cX6_sums 279 = .ok (.lcmp, 1) := by decide +kernel
theorem dX6_sums_280 : decode cX6_sums 280 = .ok (.ifCond .le 25, 3) := by decide +kernel
theorem dX6_sums_283 : decode cX6_sums 283 = .ok (.aload_n 0, 1) := by decide +kernel
theorem dX6_sums_284 : decode cX6_sums 284 = .ok (.dup, 1) := by decide +kernel
theorem dX6_sums_285 : decode cX6_sums 285 = .ok (.getfield 114, 3) := by decide +kernel
theorem dX6_sums_288 : decode cX6_sums 288 = .ok (.aload_n 0, 1) := by decide +kernel
theorem dX6_sums_289 : decode cX6_sums 289 = .ok (.getfield 118, 3) := by decide +kernel
theorem dX6_sums_292 : decode cX6_sums 292 = .ok (.iload_n 3, 1) := by decide +kernel
theorem dX6_sums_293 : decode cX6_sums 293 = .ok (.i2l, 1) := by decide +kernel
theorem dX6_sums_294 : decode cX6_sums 294 = .ok (.lsub, 1) := by decide +kernel
theorem dX6_sums_295 : decode cX6_sums 295 = .ok (.ladd, 1) := by decide +kernel
theorem dX6_sums_296 : decode cX6_sums 296 = .ok (.putfield 114, 3) := by decide +kernel
theorem dX6_sums_299 : decode cX6_sums 299 = .ok (.aload_n 0, 1) := by decide +kernel
theorem dX6_sums_300 : decode cX6_sums 300 = .ok (.iload_n 3, 1) := by decide +kernel
theorem dX6_sums_301 : decode cX6_sums 301 = .ok (.i2l, 1) := by decide +kernel
theorem dX6_sums_302 : decode cX6_sums 302 = .ok (.putfield 118, 3) := by decide +kernel
theorem dX6_sums_305 : decode cX6_sums 305 = .ok (.return_, 1) := by decide +kernel
theorem dX6_badness_0 : decode cX6_badness 0 = .ok (.lload_n 0, 1) := by decide +kernel
theorem dX6_badness_1 : decode cX6_badness 1 = .ok (.lconst 0, 1) := by decide +kernel
theorem dX6_badness_2 : decode cX6_badness 2 = .ok (.lcmp, 1) := by decide +kernel
theorem dX6_badness_3 : decode cX6_badness 3 = .ok (.ifCond .eq 9, 3) := by decide +kernel
theorem dX6_badness_6 : decode cX6_badness 6 = .ok (.lload_n 2, 1) := by decide +kernel
theorem dX6_badness_7 : decode cX6_badness 7 = .ok (.lconst 0, 1) := by decide +kernel
theorem dX6_badness_8 : decode cX6_badness 8 = .ok (.lcmp, 1) := by decide +kernel
theorem dX6_badness_9 : decode cX6_badness 9 = .ok (.ifCond .ne 17, 3) := by decide +kernel
theorem dX6_badness_12 : decode cX6_badness 12 = .ok (.lload_n 0, 1) := by decide +kernel
theorem dX6_badness_13 : decode cX6_badness 13 = .ok (.lconst 0, 1) := by decide +kernel
theorem dX6_badness_14 : decode cX6_badness 14 = .ok (.lcmp, 1) := by decide +kernel
theorem dX6_badness_15 : decode cX6_badness 15 = .ok (.ifCond .ne 7, 3) := by decide +kernel
theorem dX6_badness_18 : decode cX6_badness 18 = .ok (.iconst 0, 1) := by decide +kernel
theorem dX6_badness_19 : decode cX6_badness 19 = .ok (.goto 6, 3) := by decide +kernel
theorem dX6_badness_22 : decode cX6_badness 22 = .ok (.sipush 10000, 3) := by decide +kernel
theorem dX6_badness_25 : decode cX6_badness 25 = .ok (.ireturn, 1) := by decide +kernel
theorem dX6_badness_26 : decode cX6_badness 26 = .ok (.ldc2_w 130, 3) := by decide +kernel
theorem dX6_badness_29 : decode cX6_badness 29 = .ok (.lload_n 0, 1) := by decide +kernel
theorem dX6_badness_30 : decode cX6_badness 30 = .ok (.lmul, 1) := by decide +kernel
theorem dX6_badness_31 : decode cX6_badness 31 = .ok (.lload_n 2, 1) := by decide +kernel
theorem dX6_badness_32 : decode cX6_badness 32 = .ok (.ldiv, 1) := by decide +kernel
theorem dX6_badness_33 : decode cX6_badness 33 = .ok (.lstore 4, 2) := by decide +kernel
theorem dX6_badness_35 : decode cX6_badness 35 = .ok (.lload 4, 2) := by decide +kernel
theorem dX6_badness_37 : decode cX6_badness 37 = .ok (.ldc2_w 132, 3) := by decide +kernel
theorem dX6_badness_40 : decode cX6_badness 40 = .ok (.lcmp, 1) := by decide +kernel
theorem dX6_badness_41 : decode cX6_badness 41 = .ok (.ifCond .le 9, 3) := by decide +kernel
theorem dX6_badness_44 : decode cX6_badness 44 = .ok (.sipush 10000, 3) := by decide +kernel
theorem dX6_badness_47 : decode cX6_badness 47 = .ok (.goto 20, 3) := by decide +kernel
theorem dX6_badness_50 : decode cX6_badness 50 = .ok (.lload 4, 2) := by decide +kernel
theorem dX6_badness_52 : decode cX6_badness 52 = .ok (.lload 4, 2) := by decide +kernel
theorem dX6_badness_54 : decode cX6_badness 54 = .ok (.lmul, 1) := by decide +kernel
theorem dX6_badness_55 : decode cX6_badness 55 = .ok (.lload 4, 2) := by decide +kernel
theorem dX6_badness_57 : decode cX6_badness 57 = .ok (.lmul, 1) := by decide +kernel
theorem dX6_badness_58 : decode cX6_badness 58 = .ok (.ldc2_w 134, 3) := by decide +kernel
theorem dX6_badness_61 : decode cX6_badness 61 = .ok (.ladd, 1) := by decide +kernel
theorem dX6_badness_62 : decode cX6_badness 62 = .ok (.ldc2_w 136, 3) := by decide +kernel
theorem dX6_badness_65 : decode cX6_badness 65 = .ok (.ldiv, 1) := by decide +kernel
theorem dX6_badness_66 : decode cX6_badness 66 = .ok (.l2i, 1) := by decide +kernel
theorem dX6_badness_67 : decode cX6_badness 67 = .ok (.ireturn, 1) := by decide +kernel
set_option maxRecDepth 20000 in
theorem ggX6_weight_X6_badness : GoodIn wsX6_weight wsX6_badness := goodIn_r _ [8, 9, 10, 11, 12] (by decide +kernel) (by decide +kernel)
set_option maxRecDepth 20000 in
theorem gX6_weight_X6_badness : GoodIn wsX6_weight (va_wsS RX6 141 yX6_badness wsX6_badness) := goodIn_app (goodIn_of _ (by decide +kernel)) ggX6_weight_X6_badness
theorem dX6_weight_0 : decode cX6_weight 0 = .ok (.aload_n 0, 1) := by decide +kernel
theorem dX6_weight_1 : decode cX6_weight 1 = .ok (.getfield 114, 3) := by decide +kernel
theorem dX6_weight_4 : decode cX6_weight 4 = .ok (.aload_n 0, 1) := by decide +kernel
theorem dX6_weight_5 : decode cX6_weight 5 = .ok (.getfield 138, 3) := by decide +kernel
theorem dX6_weight_8 : decode cX6_weight 8 = .ok (.i2l, 1) := by decide +kernel
theorem dX6_weight_9 : decode cX6_weight 9 = .ok (.lcmp, 1) := by decide +kernel
theorem dX6_weight_10 : decode cX6_weight 10 = .ok (.ifCond .eq 41, 3) := by decide +kernel
theorem dX6_weight_13 : decode cX6_weight 13 = .ok (.aload_n 0, 1) := by decide +kernel
theorem dX6_weight_14 : decode cX6_weight 14 = .ok (.getfield 114, 3) := by decide +kernel
theorem dX6_weight_17 : decode cX6_weight 17 = .ok (.aload_n 0, 1) := by decide +kernel
theorem dX6_weight_18 : decode cX6_weight 18 = .ok (.getfield 138, 3) := by decide +kernel
theorem dX6_weight_21 : decode cX6_weight 21 = .ok (.i2l, 1) := by decide +kernel
theorem dX6_weight_22 : decode cX6_weight 22 = .ok (.lcmp, 1) := by decide +kernel
theorem dX6_weight_23 : decode cX6_weight 23 = .ok (.ifCond .ge 30, 3) := by decide +kernel
theorem dX6_weight_26 : decode cX6_weight 26 = .ok (.aload_n 0, 1) := by decide +kernel
theorem dX6_weight_27 : decode cX6_weight 27 = .ok (.getfield 51, 3) := by decide +kernel
theorem dX6_weight_30 : decode cX6_weight 30 = .ok (.iconst 1, 1) := by decide +kernel
theorem dX6_weight_31 : decode cX6_weight 31 = .ok (.laload, 1) := by decide +kernel
theorem dX6_weight_32 : decode cX6_weight 32 = .ok (.aload_n 0, 1) := by decide +kernel
theorem dX6_weight_33 : decode cX6_weight 33 = .ok (.getfield 51, 3) := by decide +kernel
theorem dX6_weight_36 : decode cX6_weight 36 = .ok (.iconst 2, 1) := by decide +kernel
theorem dX6_weight_37 : decode cX6_weight 37 = .ok (.laload, 1) := by decide +kernel
theorem dX6_weight_38 : decode cX6_weight 38 = .ok (.ladd, 1) := by decide +kernel
theorem dX6_weight_39 : decode cX6_weight 39 = .ok (.aload_n 0, 1) := by decide +kernel
theorem dX6_weight_40 : decode cX6_weight 40 = .ok (.getfield 51, 3) := by decide +kernel
theorem dX6_weight_43 : decode cX6_weight 43 = .ok (.iconst 3, 1) := by decide +kernel
theorem dX6_weight_44 : decode cX6_weight 44 = .ok (.laload, 1) := by decide +kernel
theorem dX6_weight_45 : decode cX6_weight 45 = .ok (.ladd, 1) := by decide +kernel
theorem dX6_weight_46 : decode cX6_weight 46 = .ok (.lconst 0, 1) := by decide +kernel
theorem dX6_weight_47 : decode cX6_weight 47 = .ok (.lcmp, 1) := by decide +kernel
theorem dX6_weight_48 : decode cX6_weight 48 = .ok (.ifCond .le 5, 3) := by decide +kernel
theorem dX6_weight_51 : decode cX6_weight 51 = .ok (.iconst 0, 1) := by decide +kernel
theorem dX6_weight_52 : decode cX6_weight 52 = .ok (.ireturn, 1) := by decide +kernel
theorem dX6_weight_53 : decode cX6_weight 53 = .ok (.aload_n 0, 1) := by decide +kernel
theorem dX6_weight_54 : decode cX6_weight 54 = .ok (.getfield 114, 3) := by decide +kernel
theorem dX6_weight_57 : decode cX6_weight 57 = .ok (.aload_n 0, 1) := by decide +kernel
theorem dX6_weight_58 : decode cX6_weight 58 = .ok (.getfield 138, 3) := by decide +kernel
theorem dX6_weight_61 : decode cX6_weight 61 = .ok (.i2l, 1) := by decide +kernel
theorem dX6_weight_62 : decode cX6_weight 62 = .ok (.lcmp, 1) := by decide +kernel
theorem dX6_weight_63 : decode cX6_weight 63 = .ok (.ifCond .ge 23, 3) := by decide +kernel
theorem dX6_weight_66 : decode cX6_weight 66 = .ok (.aload_n 0, 1) := by decide +kernel
theorem dX6_weight_67 : decode cX6_weight 67 = .ok (.getfield 138, 3) := by decide +kernel
theorem dX6_weight_70 : decode cX6_weight 70 = .ok (.i2l, 1) := by decide +kernel
theorem dX6_weight_71 : decode cX6_weight 71 = .ok (.aload_n 0, 1) := by decide +kernel
theorem dX6_weight_72 : decode cX6_weight 72 = .ok (.getfield 114, 3) := by decide +kernel
theorem dX6_weight_75 : decode cX6_weight 75 = .ok (.lsub, 1) := by decide +kernel
theorem dX6_weight_76 : decode cX6_weight 76 = .ok (.aload_n 0, 1) := by decide +kernel
theorem dX6_weight_77 : decode cX6_weight 77 = .ok (.getfield 51, 3) := by decide +kernel
theorem dX6_weight_80 : decode cX6_weight 80 = .ok (.iconst 0, 1) := by decide +kernel
theorem dX6_weight_81 : decode cX6_weight 81 = .ok (.laload, 1) := by decide +kernel
theorem dX6_weight_82 : decode cX6_weight 82 = .ok (.invokestatic 141, 3) := by decide +kernel
theorem dX6_weight_85 : decode cX6_weight 85 = .ok (.ireturn, 1) := by decide +kernel
theorem dX6_weight_86 : decode cX6_weight 86 = .ok (.aload_n 0, 1) := by decide +kernel
theorem dX6_weight_87 : decode cX6_weight 87 = .ok (.getfield 114, 3) := by decide +kernel
theorem dX6_weight_90 : decode cX6_weight 90 = .ok (.aload_n 0, 1) := by decide +kernel
theorem dX6_weight_91 : decode cX6_weight 91 = .ok (.getfield 138, 3) := by decide +kernel
theorem dX6_weight_94 : decode cX6_weight 94 = .ok (.i2l, 1) := by decide +kernel
theorem dX6_weight_95 : decode cX6_weight 95 = .ok (.lsub, 1) := by decide +kernel
theorem dX6_weight_96 : decode cX6_weight 96 = .ok (.aload_n 0, 1) := by decide +kernel
theorem dX6_weight_97 : decode cX6_weight 97 = .ok (.getfield 124, 3) := by decide +kernel
theorem dX6_weight_100 : decode cX6_weight 100 = .ok (.lcmp, 1) := by decide +kernel
theorem dX6_weight_101 : decode cX6_weight 101 = .ok (.ifCond .le 7, 3) := by decide +kernel
theorem dX6_weight_104 : decode cX6_weight 104 = .ok (.iconst (-1), 1) := by decide +kernel
theorem dX6_weight_105 : decode cX6_weight 105 = .ok (.goto 20, 3) := by decide +kernel
theorem dX6_weight_108 : decode cX6_weight 108 = .ok (.aload_n 0, 1) := by decide +kernel
theorem dX6_weight_109 : decode cX6_weight 109 = .ok (.getfield 114, 3) := by decide +kernel
theorem dX6_weight_112 : decode cX6_weight 112 = .ok (.aload_n 0, 1) := by decide +kernel
theorem dX6_weight_113 : decode cX6_weight 113 = .ok (.getfield 138, 3) := by decide +kernel
theorem dX6_weight_116 : decode cX6_weight 116 = .ok (.i2l, 1) := by decide +kernel
theorem dX6_weight_117 : decode cX6_weight 117 = .ok (.lsub, 1) := by decide +kernel
theorem dX6_weight_118 : decode cX6_weight 118 = .ok (.aload_n 0, 1) := by decide +kernel
theorem dX6_weight_119 : decode cX6_weight 119 = .ok (.getfield 124, 3) := by decide +kernel
theorem dX6_weight_122 : decode cX6_weight 122 = .ok (.invokestatic 141, 3) := by decide +kernel
theorem dX6_weight_125 : decode cX6_weight 125 = .ok (.ireturn, 1) := by decide +kernel
theorem dX6_near_0 : decode cX6_near 0 = .ok (.lload_n 0, 1) := by decide +kernel
theorem dX6_near_1 : decode cX6_near 1 = .ok (.lconst 0, 1) := by decide +kernel
theorem dX6_near_2 : decode cX6_near 2 = .ok (.lcmp, 1) := by decide +kernel
theorem dX6_near_3 : decode cX6_near 3 = .ok (.ifCond .ge 8, 3) := by decide +kernel
theorem dX6_near_6 : decode cX6_near 6 = .ok (.lload_n 0, 1) := by decide +kernel
theorem dX6_near_7 : decode cX6_near 7 = .ok (.lneg, 1) := by decide +kernel
theorem dX6_near_8 : decode cX6_near 8 = .ok (.goto 4, 3) := by decide +kernel
theorem dX6_near_11 : decode cX6_near 11 = .ok (.lload_n 0, 1) := by decide +kernel
theorem dX6_near_12 : decode cX6_near 12 = .ok (.lstore 4, 2) := by decide +kernel
theorem dX6_near_14 : decode cX6_near 14 = .ok (.ldc2_w 145, 3) := by decide +kernel
theorem dX6_near_17 : decode cX6_near 17 = .ok (.lload 4, 2) := by decide +kernel
theorem dX6_near_19 : decode cX6_near 19 = .ok (.lmul, 1) := by decide +kernel
theorem dX6_near_20 : decode cX6_near 20 = .ok (.lload_n 2, 1) := by decide +kernel
theorem dX6_near_21 : decode cX6_near 21 = .ok (.ladd, 1) := by decide +kernel
theorem dX6_near_22 : decode cX6_near 22 = .ok (.ldc2_w 145, 3) := by decide +kernel
theorem dX6_near_25 : decode cX6_near 25 = .ok (.lload_n 2, 1) := by decide +kernel
theorem dX6_near_26 : decode cX6_near 26 = .ok (.lmul, 1) := by decide +kernel
theorem dX6_near_27 : decode cX6_near 27 = .ok (.ldiv, 1) := by decide +kernel
theorem dX6_near_28 : decode cX6_near 28 = .ok (.lstore 4, 2) := by decide +kernel
theorem dX6_near_30 : decode cX6_near 30 = .ok (.lload_n 0, 1) := by decide +kernel
theorem dX6_near_31 : decode cX6_near 31 = .ok (.lconst 0, 1) := by decide +kernel
theorem dX6_near_32 : decode cX6_near 32 = .ok (.lcmp, 1) := by decide +kernel
theorem dX6_near_33 : decode cX6_near 33 = .ok (.ifCond .ge 9, 3) := by decide +kernel
theorem dX6_near_36 : decode cX6_near 36 = .ok (.lload 4, 2) := by decide +kernel
theorem dX6_near_38 : decode cX6_near 38 = .ok (.lneg, 1) := by decide +kernel
theorem dX6_near_39 : decode cX6_near 39 = .ok (.goto 5, 3) := by decide +kernel
theorem dX6_near_42 : decode cX6_near 42 = .ok (.lload 4, 2) := by decide +kernel
theorem dX6_near_44 : decode cX6_near 44 = .ok (.lreturn, 1) := by decide +kernel
set_option maxRecDepth 20000 in
theorem ggX6_share_X6_near : GoodIn wsX6_share wsX6_near := goodIn_r _ [11, 12] (by decide +kernel) (by decide +kernel)
set_option maxRecDepth 20000 in
theorem gX6_share_X6_near : GoodIn wsX6_share (va_wsS RX6 147 yX6_near wsX6_near) := goodIn_app (goodIn_of _ (by decide +kernel)) ggX6_share_X6_near
theorem dX6_share_0 : decode cX6_share 0 = .ok (.iconst 3, 1) := by decide +kernel
theorem dX6_share_1 : decode cX6_share 1 = .ok (.istore 5, 2) := by decide +kernel
theorem dX6_share_3 : decode cX6_share 3 = .ok (.iload 5, 2) := by decide +kernel
theorem dX6_share_5 : decode cX6_share 5 = .ok (.ifCond .le 21, 3) := by decide +kernel
theorem dX6_share_8 : decode cX6_share 8 = .ok (.aload_n 0, 1) := by decide +kernel
theorem dX6_share_9 : decode cX6_share 9 = .ok (.getfield 51, 3) := by decide +kernel
theorem dX6_share_12 : decode cX6_share 12 = .ok (.iload 5, 2) := by decide +kernel
theorem dX6_share_14 : decode cX6_share 14 = .ok (.laload, 1) := by decide +kernel
theorem dX6_share_15 : decode cX6_share 15 = .ok (.lconst 0, 1) := by decide +kernel
theorem dX6_share_16 : decode cX6_share 16 = .ok (.lcmp, 1) := by decide +kernel
theorem dX6_share_17 : decode cX6_share 17 = .ok (.ifCond .ne 9, 3) := by decide +kernel
theorem dX6_share_20 : decode cX6_share 20 = .ok (.iinc 5 (-1), 3) := by decide +kernel
theorem dX6_share_23 : decode cX6_share 23 = .ok (.goto (-20), 3) := by decide +kernel
theorem dX6_share_26 : decode cX6_share 26 = .ok (.lload_n 3, 1) := by decide +kernel
theorem dX6_share_27 : decode cX6_share 27 = .ok (.lconst 0, 1) := by decide +kernel
theorem dX6_share_28 : decode cX6_share 28 = .ok (.lcmp, 1) := by decide +kernel
theorem dX6_share_29 : decode cX6_share 29 = .ok (.ifCond .le 7, 3) := by decide +kernel
theorem dX6_share_32 : decode cX6_share 32 = .ok (.iconst 1, 1) := by decide +kernel
theorem dX6_share_33 : decode cX6_share 33 = .ok (.goto 4, 3) := by decide +kernel
theorem dX6_share_36 : decode cX6_share 36 = .ok (.iconst 0, 1) := by decide +kernel
theorem dX6_share_37 : decode cX6_share 37 = .ok (.istore 6, 2) := by decide +kernel
theorem dX6_share_39 : decode cX6_share 39 = .ok (.iload 6, 2) := by decide +kernel
theorem dX6_share_41 : decode cX6_share 41 = .ok (.ifCond .eq 13, 3) := by decide +kernel
theorem dX6_share_44 : decode cX6_share 44 = .ok (.aload_n 0, 1) := by decide +kernel
theorem dX6_share_45 : decode cX6_share 45 = .ok (.getfield 51, 3) := by decide +kernel
theorem dX6_share_48 : decode cX6_share 48 = .ok (.iload 5, 2) := by decide +kernel
theorem dX6_share_50 : decode cX6_share 50 = .ok (.laload, 1) := by decide +kernel
theorem dX6_share_51 : decode cX6_share 51 = .ok (.goto 7, 3) := by decide +kernel
theorem dX6_share_54 : decode cX6_share 54 = .ok (.aload_n 0, 1) := by decide +kernel
theorem dX6_share_55 : decode cX6_share 55 = .ok (.getfield 124, 3) := by decide +kernel
theorem dX6_share_58 : decode cX6_share 58 = .ok (.lstore 7, 2) := by decide +kernel
theorem dX6_share_60 : decode cX6_share 60 = .ok (.iload 6, 2) := by decide +kernel
theorem dX6_share_62 : decode cX6_share 62 = .ok (.ifCond .ne 21, 3) := by decide +kernel
theorem dX6_share_65 : decode cX6_share 65 = .ok (.lload_n 3, 1) := by decide +kernel
theorem dX6_share_66 : decode cX6_share 66 = .ok (.aload_n 0, 1) := by decide +kernel
theorem dX6_share_67 : decode cX6_share 67 = .ok (.getfield 124, 3) := by decide +kernel
theorem dX6_share_70 : decode cX6_share 70 = .ok (.lneg, 1) := by decide +kernel
theorem dX6_share_71 : decode cX6_share 71 = .ok (.lcmp, 1) := by decide +kernel
theorem dX6_share_72 : decode cX6_share 72 = .ok (.ifCond .ge 11, 3) := by decide +kernel
theorem dX6_share_75 : decode cX6_share 75 = .ok (.aload_n 0, 1) := by decide +kernel
theorem dX6_share_76 : decode cX6_share 76 = .ok (.getfield 124, 3) := by decide +kernel
theorem dX6_share_79 : decode cX6_share 79 = .ok (.lneg, 1) := by decide +kernel
theorem dX6_share_80 : decode cX6_share 80 = .ok (.goto 4, 3) := by decide +kernel
theorem dX6_share_83 : decode cX6_share 83 = .ok (.lload_n 3, 1) := by decide +kernel
theorem dX6_share_84 : decode cX6_share 84 = .ok (.lstore 9, 2) := by decide +kernel
theorem dX6_share_86 : decode cX6_share 86 = .ok (.lconst 0, 1) := by decide +kernel
theorem dX6_share_87 : decode cX6_share 87 = .ok (.lstore 11, 2) := by decide +kernel
theorem dX6_share_89 : decode cX6_share 89 = .ok (.iload_n 1, 1) := by decide +kernel
theorem dX6_share_90 : decode cX6_share 90 = .ok (.istore 13, 2) := by decide +kernel
theorem dX6_share_92 : decode cX6_share 92 = .ok (.iload 13, 2) := by decide +kernel
theorem dX6_share_94 : decode cX6_share 94 = .ok (.iload_n 1, 1) := by decide +kernel
theorem dX6_share_95 : decode cX6_share 95 = .ok (.iload_n 2, 1) := by decide +kernel
theorem dX6_share_96 : decode cX6_share 96 = .ok (.iadd, 1) := by decide +kernel
theorem dX6_share_97 : decode cX6_share 97 = .ok (.if_icmp .ge 129, 3) := by decide +kernel
theorem dX6_share_100 : decode cX6_share 100 = .ok (.aload_n 0, 1) := by decide +kernel
theorem dX6_share_101 : decode cX6_share 101 = .ok (.getfield 7, 3) := by decide +kernel
theorem dX6_share_104 : decode cX6_share 104 = .ok (.iload 13, 2) := by decide +kernel
theorem dX6_share_106 : decode cX6_share 106 = .ok (.iaload, 1) := by decide +kernel
theorem dX6_share_107 : decode cX6_share 107 = .ok (.iconst 5, 1) := by decide +kernel
theorem dX6_share_108 : decode cX6_share 108 = .ok (.if_icmp .ne 31, 3) := by decide +kernel
theorem dX6_share_111 : decode cX6_share 111 = .ok (.lload 7, 2) := by decide +kernel
theorem dX6_share_113 : decode cX6_share 113 = .ok (.lconst 0, 1) := by decide +kernel
theorem dX6_share_114 : decode cX6_share 114 = .ok (.lcmp, 1) := by decide +kernel
theorem dX6_share_115 : decode cX6_share 115 = .ok (.ifCond .le 24, 3) := by decide +kernel
theorem dX6_share_118 : decode cX6_share 118 = .ok (.iload 6, 2) := by decide +kernel
theorem dX6_share_120 : decode cX6_share 120 = .ok (.ifCond .eq 15, 3) := by decide +kernel
theorem dX6_share_123 : decode cX6_share 123 = .ok (.aload_n 0, 1) := by decide +kernel
theorem dX6_share_124 : decode cX6_share 124 = .ok (.getfield 25, 3) := by decide +kernel
theorem dX6_share_127 : decode cX6_share 127 = .ok (.iload 13, 2) := by decide +kernel
theorem dX6_share_129 : decode cX6_share 129 = .ok (.iaload, 1) := by decide +kernel
theorem dX6_share_130 : decode cX6_share 130 = .ok (.iload 5, 2) := by decide +kernel
theorem dX6_share_132 : decode cX6_share 132 = .ok (.if_icmp .ne 7, 3) := by decide +kernel
theorem dX6_share_135 : decode cX6_share 135 = .ok (.iconst 1, 1) := by decide +kernel
theorem dX6_share_136 : decode cX6_share 136 = .ok (.goto 4, 3) := by decide +kernel
theorem dX6_share_139 : decode cX6_share 139 = .ok (.iconst 0, 1) := by decide +kernel
theorem dX6_share_140 : decode cX6_share 140 = .ok (.istore 14, 2) := by decide +kernel
theorem dX6_share_142 : decode cX6_share 142 = .ok (.lload 11, 2) := by decide +kernel
theorem dX6_share_144 : decode cX6_share 144 = .ok (.iload 14, 2) := by decide +kernel
theorem dX6_share_146 : decode cX6_share 146 = .ok (.ifCond .eq 28, 3) := by decide +kernel
theorem dX6_share_149 : decode cX6_share 149 = .ok (.iload 6, 2) := by decide +kernel
theorem dX6_share_151 : decode cX6_share 151 = .ok (.ifCond .eq 13, 3) := by decide +kernel
theorem dX6_share_154 : decode cX6_share 154 = .ok (.aload_n 0, 1) := by decide +kernel
theorem dX6_share_155 : decode cX6_share 155 = .ok (.getfield 22, 3) := by decide +kernel
theorem dX6_share_158 : decode cX6_share 158 = .ok (.iload 13, 2) := by decide +kernel
theorem dX6_share_160 : decode cX6_share 160 = .ok (.iaload, 1) := by decide +kernel
theorem dX6_share_161 : decode cX6_share 161 = .ok (.goto 14, 3) := by decide +kernel
theorem dX6_share_164 : decode cX6_share 164 = .ok (.aload_n 0, 1) := by decide +kernel
theorem dX6_share_165 : decode cX6_share 165 = .ok (.getfield 28, 3) := by decide +kernel
theorem dX6_share_168 : decode cX6_share 168 = .ok (.iload 13, 2) := by decide +kernel
theorem dX6_share_170 : decode cX6_share 170 = .ok (.iaload, 1) := by decide +kernel
theorem dX6_share_171 : decode cX6_share 171 = .ok (.goto 4, 3) := by decide +kernel
theorem dX6_share_174 : decode cX6_share 174 = .ok (.iconst 0, 1) := by decide +kernel
theorem dX6_share_175 : decode cX6_share 175 = .ok (.i2l, 1) := by decide +kernel
theorem dX6_share_176 : decode cX6_share 176 = .ok (.ladd, 1) := by decide +kernel
theorem dX6_share_177 : decode cX6_share 177 = .ok (.lstore 15, 2) := by decide +kernel
theorem dX6_share_179 : decode cX6_share 179 = .ok (.aload_n 0, 1) := by decide +kernel
theorem dX6_share_180 : decode cX6_share 180 = .ok (.getfield 31, 3) := by decide +kernel
theorem dX6_share_183 : decode cX6_share 183 = .ok (.iload 13, 2) := by decide +kernel
theorem dX6_share_185 : decode cX6_share 185 = .ok (.iload 14, 2) := by decide +kernel
theorem dX6_share_187 : decode cX6_share 187 = .ok (.ifCond .eq 27, 3) := by decide +kernel
theorem dX6_share_190 : decode cX6_share 190 = .ok (.lload 9, 2) := by decide +kernel
theorem dX6_share_192 : decode cX6_share 192 = .ok (.lload 15, 2) := by decide +kernel
theorem dX6_share_194 : decode cX6_share 194 = .ok (.lmul, 1) := by decide +kernel
theorem dX6_share_195 : decode cX6_share 195 = .ok (.lload 7, 2) := by decide +kernel
theorem dX6_share_197 : decode cX6_share 197 = .ok (.invokestatic 147, 3) := by decide +kernel
theorem dX6_share_200 : decode cX6_share 200 = .ok (.lload 9, 2) := by decide +kernel
theorem dX6_share_202 : decode cX6_share 202 = .ok (.lload 11, 2) := by decide +kernel
theorem dX6_share_204 : decode cX6_share 204 = .ok (.lmul, 1) := by decide +kernel
theorem dX6_share_205 : decode cX6_share 205 = .ok (.lload 7, 2) := by decide +kernel
theorem dX6_share_207 : decode cX6_share 207 = .ok (.invokestatic 147, 3) := by decide +kernel
theorem dX6_share_210 : decode cX6_share 210 = .ok (.lsub, 1) := by decide +kernel
theorem dX6_share_211 : decode cX6_share 211 = .ok (.goto 4, 3) := by decide +kernel
theorem dX6_share_214 : decode cX6_share 214 = .ok (.lconst 0, 1) := by decide +kernel
theorem dX6_share_215 : decode cX6_share 215 = .ok (.lastore, 1) := by decide +kernel
theorem dX6_share_216 : decode cX6_share 216 = .ok (.lload 15, 2) := by decide +kernel
theorem dX6_share_218 : decode cX6_share 218 = .ok (.lstore 11, 2) := by decide +kernel
theorem dX6_share_220 : decode cX6_share 220 = .ok (.iinc 13 1, 3) := by decide +kernel
theorem dX6_share_223 : decode cX6_share 223 = .ok (.goto (-131), 3) := by decide +kernel
theorem dX6_share_226 : decode cX6_share 226 = .ok (.return_, 1) := by decide +kernel
set_option maxRecDepth 20000 in
theorem ggX6_forget_X6_all : GoodIn wsX6_forget wsX6_all := goodIn_r _ [12, 2, 3, 4, 1, 29, 30, 31, 32, 33, 34, 35, 36, 37, 38, 39, 40, 41, 42, 43, 44, 45, 46, 47, 48, 49, 50, 51, 52, 53, 54, 55, 56, 57, 58, 59, 60] (by decide +kernel) (by decide +kernel)
set_option maxRecDepth 20000 in
theorem gX6_forget_X6_all : GoodIn wsX6_forget (wsV RX6 98 RX6 yX6_all wsX6_all) := goodIn_app (goodIn_of _ (by decide +kernel)) ggX6_forget_X6_all
set_option maxRecDepth 20000 in
theorem ggX6_forget_X6_move : GoodIn wsX6_forget wsX6_move := goodIn_r _ [16, 17, 18, 19, 20, 21, 22, 23, 24, 25, 26, 27, 11, 28, 29, 30, 31, 32, 33, 34, 35, 36, 37, 38, 39, 40, 41, 42, 43, 44, 45, 46, 47, 48, 49, 50, 51, 52, 53, 54, 55, 56, 57, 58, 59, 60] (by decide +kernel) (by decide +kernel)
set_option maxRecDepth 20000 in
theorem gX6_forget_X6_move : GoodIn wsX6_forget (wsV RX6 110 RX6 yX6_move wsX6_move) := goodIn_app (goodIn_of _ (by decide +kernel)) ggX6_forget_X6_move
theorem dX6_forget_0 : decode cX6_forget 0 = .ok (.aload_n 0, 1) := by decide +kernel
theorem dX6_forget_1 : decode cX6_forget 1 = .ok (.getfield 35, 3) := by decide +kernel
theorem dX6_forget_4 : decode cX6_forget 4 = .ok (.iconst 0, 1) := by decide +kernel
theorem dX6_forget_5 : decode cX6_forget 5 = .ok (.iaload, 1) := by decide +kernel
theorem dX6_forget_6 : decode cX6_forget 6 = .ok (.istore_n 1, 1) := by decide +kernel
theorem dX6_forget_7 : decode cX6_forget 7 = .ok (.sipush 8400, 3) := by decide +kernel
theorem dX6_forget_10 : decode cX6_forget 10 = .ok (.aload_n 0, 1) := by decide +kernel
theorem dX6_forget_11 : decode cX6_forget 11 = .ok (.invokevirtual 98, 3) := by decide +kernel
theorem dX6_forget_14 : decode cX6_forget 14 = .ok (.iadd, 1) := by decide +kernel
theorem dX6_forget_15 : decode cX6_forget 15 = .ok (.aload_n 0, 1) := by decide +kernel
theorem dX6_forget_16 : decode cX6_forget 16 = .ok (.getfield 89, 3) := by decide +kernel
theorem dX6_forget_19 : decode cX6_forget 19 = .ok (.isub, 1) := by decide +kernel
theorem dX6_forget_20 : decode cX6_forget 20 = .ok (.aload_n 0, 1) := by decide +kernel
theorem dX6_forget_21 : decode cX6_forget 21 = .ok (.getfield 92, 3) := by decide +kernel
theorem dX6_forget_24 : decode cX6_forget 24 = .ok (.isub, 1) := by decide +kernel
theorem dX6_forget_25 : decode cX6_forget 25 = .ok (.istore_n 2, 1) := by decide +kernel
theorem dX6_forget_26 : decode cX6_forget 26 = .ok (.sipush 8400, 3) := by decide +kernel
theorem dX6_forget_29 : decode cX6_forget 29 = .ok (.iload_n 1, 1) := by decide +kernel
theorem dX6_forget_30 : decode cX6_forget 30 = .ok (.iadd, 1) := by decide +kernel
theorem dX6_forget_31 : decode cX6_forget 31 = .ok (.istore_n 3, 1) := by decide +kernel
theorem dX6_forget_32 : decode cX6_forget 32 = .ok (.iload_n 3, 1) := by decide +kernel
theorem dX6_forget_33 : decode cX6_forget 33 = .ok (.iload_n 2, 1) := by decide +kernel
theorem dX6_forget_34 : decode cX6_forget 34 = .ok (.if_icmp .ge 17, 3) := by decide +kernel
theorem dX6_forget_37 : decode cX6_forget 37 = .ok (.aload_n 0, 1) := by decide +kernel
theorem dX6_forget_38 : decode cX6_forget 38 = .ok (.iload_n 3, 1) := by decide +kernel
theorem dX6_forget_39 : decode cX6_forget 39 = .ok (.iload_n 3, 1) := by decide +kernel
theorem dX6_forget_40 : decode cX6_forget 40 = .ok (.iload_n 1, 1) := by decide +kernel
theorem dX6_forget_41 : decode cX6_forget 41 = .ok (.isub, 1) := by decide +kernel
theorem dX6_forget_42 : decode cX6_forget 42 = .ok (.invokevirtual 110, 3) := by decide +kernel
theorem dX6_forget_45 : decode cX6_forget 45 = .ok (.iinc 3 1, 3) := by decide +kernel
theorem dX6_forget_48 : decode cX6_forget 48 = .ok (.goto (-16), 3) := by decide +kernel
theorem dX6_forget_51 : decode cX6_forget 51 = .ok (.aload_n 0, 1) := by decide +kernel
theorem dX6_forget_52 : decode cX6_forget 52 = .ok (.dup, 1) := by decide +kernel
theorem dX6_forget_53 : decode cX6_forget 53 = .ok (.getfield 95, 3) := by decide +kernel
theorem dX6_forget_56 : decode cX6_forget 56 = .ok (.iconst 1, 1) := by decide +kernel
theorem dX6_forget_57 : decode cX6_forget 57 = .ok (.isub, 1) := by decide +kernel
theorem dX6_forget_58 : decode cX6_forget 58 = .ok (.putfield 95, 3) := by decide +kernel
theorem dX6_forget_61 : decode cX6_forget 61 = .ok (.iconst 0, 1) := by decide +kernel
theorem dX6_forget_62 : decode cX6_forget 62 = .ok (.istore_n 3, 1) := by decide +kernel
theorem dX6_forget_63 : decode cX6_forget 63 = .ok (.iload_n 3, 1) := by decide +kernel
theorem dX6_forget_64 : decode cX6_forget 64 = .ok (.aload_n 0, 1) := by decide +kernel
theorem dX6_forget_65 : decode cX6_forget 65 = .ok (.getfield 95, 3) := by decide +kernel
theorem dX6_forget_68 : decode cX6_forget 68 = .ok (.if_icmp .ge 65, 3) := by decide +kernel
theorem dX6_forget_71 : decode cX6_forget 71 = .ok (.aload_n 0, 1) := by decide +kernel
theorem dX6_forget_72 : decode cX6_forget 72 = .ok (.getfield 35, 3) := by decide +kernel
theorem dX6_forget_75 : decode cX6_forget 75 = .ok (.iload_n 3, 1) := by decide +kernel
theorem dX6_forget_76 : decode cX6_forget 76 = .ok (.aload_n 0, 1) := by decide +kernel
theorem dX6_forget_77 : decode cX6_forget 77 = .ok (.getfield 35, 3) := by decide +kernel
theorem dX6_forget_80 : decode cX6_forget 80 = .ok (.iload_n 3, 1) := by decide +kernel
theorem dX6_forget_81 : decode cX6_forget 81 = .ok (.iconst 1, 1) := by decide +kernel
theorem dX6_forget_82 : decode cX6_forget 82 = .ok (.iadd, 1) := by decide +kernel
theorem dX6_forget_83 : decode cX6_forget 83 = .ok (.iaload, 1) := by decide +kernel
theorem dX6_forget_84 : decode cX6_forget 84 = .ok (.iastore, 1) := by decide +kernel
theorem dX6_forget_85 : decode cX6_forget 85 = .ok (.aload_n 0, 1) := by decide +kernel
theorem dX6_forget_86 : decode cX6_forget 86 = .ok (.getfield 38, 3) := by decide +kernel
theorem dX6_forget_89 : decode cX6_forget 89 = .ok (.iload_n 3, 1) := by decide +kernel
theorem dX6_forget_90 : decode cX6_forget 90 = .ok (.aload_n 0, 1) := by decide +kernel
theorem dX6_forget_91 : decode cX6_forget 91 = .ok (.getfield 38, 3) := by decide +kernel
theorem dX6_forget_94 : decode cX6_forget 94 = .ok (.iload_n 3, 1) := by decide +kernel
theorem dX6_forget_95 : decode cX6_forget 95 = .ok (.iconst 1, 1) := by decide +kernel
theorem dX6_forget_96 : decode cX6_forget 96 = .ok (.iadd, 1) := by decide +kernel
theorem dX6_forget_97 : decode cX6_forget 97 = .ok (.iaload, 1) := by decide +kernel
theorem dX6_forget_98 : decode cX6_forget 98 = .ok (.iastore, 1) := by decide +kernel
theorem dX6_forget_99 : decode cX6_forget 99 = .ok (.aload_n 0, 1) := by decide +kernel
theorem dX6_forget_100 : decode cX6_forget 100 = .ok (.getfield 41, 3) := by decide +kernel
theorem dX6_forget_103 : decode cX6_forget 103 = .ok (.iload_n 3, 1) := by decide +kernel
theorem dX6_forget_104 : decode cX6_forget 104 = .ok (.aload_n 0, 1) := by decide +kernel
theorem dX6_forget_105 : decode cX6_forget 105 = .ok (.getfield 41, 3) := by decide +kernel
theorem dX6_forget_108 : decode cX6_forget 108 = .ok (.iload_n 3, 1) := by decide +kernel
theorem dX6_forget_109 : decode cX6_forget 109 = .ok (.iconst 1, 1) := by decide +kernel
theorem dX6_forget_110 : decode cX6_forget 110 = .ok (.iadd, 1) := by decide +kernel
theorem dX6_forget_111 : decode cX6_forget 111 = .ok (.iaload, 1) := by decide +kernel
theorem dX6_forget_112 : decode cX6_forget 112 = .ok (.iastore, 1) := by decide +kernel
theorem dX6_forget_113 : decode cX6_forget 113 = .ok (.aload_n 0, 1) := by decide +kernel
theorem dX6_forget_114 : decode cX6_forget 114 = .ok (.getfield 44, 3) := by decide +kernel
theorem dX6_forget_117 : decode cX6_forget 117 = .ok (.iload_n 3, 1) := by decide +kernel
theorem dX6_forget_118 : decode cX6_forget 118 = .ok (.aload_n 0, 1) := by decide +kernel
theorem dX6_forget_119 : decode cX6_forget 119 = .ok (.getfield 44, 3) := by decide +kernel
theorem dX6_forget_122 : decode cX6_forget 122 = .ok (.iload_n 3, 1) := by decide +kernel
theorem dX6_forget_123 : decode cX6_forget 123 = .ok (.iconst 1, 1) := by decide +kernel
theorem dX6_forget_124 : decode cX6_forget 124 = .ok (.iadd, 1) := by decide +kernel
theorem dX6_forget_125 : decode cX6_forget 125 = .ok (.iaload, 1) := by decide +kernel
theorem dX6_forget_126 : decode cX6_forget 126 = .ok (.iastore, 1) := by decide +kernel
theorem dX6_forget_127 : decode cX6_forget 127 = .ok (.iinc 3 1, 3) := by decide +kernel
theorem dX6_forget_130 : decode cX6_forget 130 = .ok (.goto (-67), 3) := by decide +kernel
theorem dX6_forget_133 : decode cX6_forget 133 = .ok (.return_, 1) := by decide +kernel
set_option maxRecDepth 20000 in
theorem ggX6_end_X6_sums : GoodIn wsX6_end wsX6_sums := goodIn_r _ [21, 2, 5, 4, 3, 6, 22, 23, 24, 25, 26, 27, 28, 29, 30, 31, 20, 32, 63, 64, 65, 66, 67, 68, 69, 70, 71, 72, 73, 74, 75, 76, 77, 78, 79, 80, 81, 82, 83, 84, 85, 86, 87, 88, 89, 90, 91, 92, 93, 94] (by decide +kernel) (by decide +kernel)
set_option maxRecDepth 20000 in
theorem gX6_end_X6_sums : GoodIn wsX6_end (wsV RX6 154 RX6 yX6_sums wsX6_sums) := goodIn_app (goodIn_of _ (by decide +kernel)) ggX6_end_X6_sums
set_option maxRecDepth 20000 in
theorem ggX6_end_X6_isSizeLong : GoodIn wsX6_end wsX6_isSizeLong := goodIn_r _ [35, 36, 37] (by decide +kernel) (by decide +kernel)
set_option maxRecDepth 20000 in
theorem gX6_end_X6_isSizeLong : GoodIn wsX6_end (va_wsS RX6 158 yX6_isSizeLong wsX6_isSizeLong) := goodIn_app (goodIn_of _ (by decide +kernel)) ggX6_end_X6_isSizeLong
set_option maxRecDepth 20000 in
theorem ggX6_end_X6_share : GoodIn wsX6_end wsX6_share := goodIn_r _ [41, 6, 3, 24, 26, 27, 28, 42, 43, 44, 20, 45, 46, 63, 64, 65, 66, 67, 68, 69, 70, 71, 72, 73, 74, 75, 76, 77, 78, 79, 80, 81, 82, 83, 84, 85, 86, 87, 88, 89, 90, 91, 92, 93, 94] (by decide +kernel) (by decide +kernel)
set_option maxRecDepth 20000 in
theorem gX6_end_X6_share : GoodIn wsX6_end (wsV RX6 162 RX6 yX6_share wsX6_share) := goodIn_app (goodIn_of _ (by decide +kernel)) ggX6_end_X6_share
set_option maxRecDepth 20000 in
theorem ggX6_end_X6_forget : GoodIn wsX6_end wsX6_forget := goodIn_r _ [50, 9, 15, 14, 8, 10, 11, 12, 51, 52, 53, 20, 54, 55, 56, 57, 58, 24, 25, 22, 23, 27, 26, 28, 42, 59, 60, 61, 62, 63, 64, 65, 66, 67, 68, 69, 70, 71, 72, 73, 74, 75, 76, 77, 78, 79, 80, 81, 82, 83, 84, 85, 86, 87, 88, 89, 90, 91, 92, 93, 94] (by decide +kernel) (by decide +kernel)
set_option maxRecDepth 20000 in
theorem gX6_end_X6_forget : GoodIn wsX6_end (wsV RX6 166 RX6 yX6_forget wsX6_forget) := goodIn_app (goodIn_of _ (by decide +kernel)) ggX6_end_X6_forget
set_option maxRecDepth 20000 in
theorem ggX6_end_X6_move : GoodIn wsX6_end wsX6_move := goodIn_r _ [58, 24, 25, 22, 23, 27, 26, 28, 42, 59, 60, 61, 20, 62, 63, 64, 65, 66, 67, 68, 69, 70, 71, 72, 73, 74, 75, 76, 77, 78, 79, 80, 81, 82, 83, 84, 85, 86, 87, 88, 89, 90, 91, 92, 93, 94] (by decide +kernel) (by decide +kernel)
set_option maxRecDepth 20000 in
theorem gX6_end_X6_move : GoodIn wsX6_end (wsV RX6 110 RX6 yX6_move wsX6_move) := goodIn_app (goodIn_of _ (by decide +kernel)) ggX6_end_X6_move
theorem dX6_end_0 : decode cX6_end 0 = .ok (.aload_n 0, 1) := by decide +kernel
theorem dX6_end_1 : decode cX6_end 1 = .ok (.sipush 4200, 3) := by decide +kernel
theorem dX6_end_4 : decode cX6_end 4 = .ok (.iload_n 1, 1) := by decide +kernel
theorem dX6_end_5 : decode cX6_end 5 = .ok (.aload_n 0, 1) := by decide +kernel
theorem dX6_end_6 : decode cX6_end 6 = .ok (.getfield 151, 3) := by decide +kernel
theorem dX6_end_9 : decode cX6_end 9 = .ok (.invokevirtual 154, 3) := by decide +kernel
theorem dX6_end_12 : decode cX6_end 12 = .ok (.aload_n 0, 1) := by decide +kernel
theorem dX6_end_13 : decode cX6_end 13 = .ok (.getfield 114, 3) := by decide +kernel
theorem dX6_end_16 : decode cX6_end 16 = .ok (.invokestatic 158, 3) := by decide +kernel
theorem dX6_end_19 : decode cX6_end 19 = .ok (.ifCond .eq 37, 3) := by decide +kernel
theorem dX6_end_22 : decode cX6_end 22 = .ok (.aload_n 0, 1) := by decide +kernel
theorem dX6_end_23 : decode cX6_end 23 = .ok (.getfield 124, 3) := by decide +kernel
theorem dX6_end_26 : decode cX6_end 26 = .ok (.invokestatic 158, 3) := by decide +kernel
theorem dX6_end_29 : decode cX6_end 29 = .ok (.ifCond .eq 27, 3) := by decide +kernel
theorem dX6_end_32 : decode cX6_end 32 = .ok (.aload_n 0, 1) := by decide +kernel
theorem dX6_end_33 : decode cX6_end 33 = .ok (.getfield 121, 3) := by decide +kernel
theorem dX6_end_36 : decode cX6_end 36 = .ok (.invokestatic 158, 3) := by decide +kernel
theorem dX6_end_39 : decode cX6_end 39 = .ok (.ifCond .eq 17, 3) := by decide +kernel
theorem dX6_end_42 : decode cX6_end 42 = .ok (.aload_n 0, 1) := by decide +kernel
theorem dX6_end_43 : decode cX6_end 43 = .ok (.getfield 118, 3) := by decide +kernel
theorem dX6_end_46 : decode cX6_end 46 = .ok (.invokestatic 158, 3) := by decide +kernel
theorem dX6_end_49 : decode cX6_end 49 = .ok (.ifCond .eq 7, 3) := by decide +kernel
theorem dX6_end_52 : decode cX6_end 52 = .ok (.iconst 1, 1) := by decide +kernel
theorem dX6_end_53 : decode cX6_end 53 = .ok (.goto 4, 3) := by decide +kernel
theorem dX6_end_56 : decode cX6_end 56 = .ok (.iconst 0, 1) := by decide +kernel
theorem dX6_end_57 : decode cX6_end 57 = .ok (.istore_n 2, 1) := by decide +kernel
theorem dX6_end_58 : decode cX6_end 58 = .ok (.iconst 0, 1) := by decide +kernel
theorem dX6_end_59 : decode cX6_end 59 = .ok (.istore_n 3, 1) := by decide +kernel
theorem dX6_end_60 : decode cX6_end 60 = .ok (.iload_n 3, 1) := by decide +kernel
theorem dX6_end_61 : decode cX6_end 61 = .ok (.iconst 4, 1) := by decide +kernel
theorem dX6_end_62 : decode cX6_end 62 = .ok (.if_icmp .ge 31, 3) := by decide +kernel
theorem dX6_end_65 : decode cX6_end 65 = .ok (.iload_n 2, 1) := by decide +kernel
theorem dX6_end_66 : decode cX6_end 66 = .ok (.ifCond .eq 19, 3) := by decide +kernel
theorem dX6_end_69 : decode cX6_end 69 = .ok (.aload_n 0, 1) := by decide +kernel
theorem dX6_end_70 : decode cX6_end 70 = .ok (.getfield 51, 3) := by decide +kernel
theorem dX6_end_73 : decode cX6_end 73 = .ok (.iload_n 3, 1) := by decide +kernel
theorem dX6_end_74 : decode cX6_end 74 = .ok (.laload, 1) := by decide +kernel
theorem dX6_end_75 : decode cX6_end 75 = .ok (.invokestatic 158, 3) := by decide +kernel
theorem dX6_end_78 : decode cX6_end 78 = .ok (.ifCond .eq 7, 3) := by decide +kernel
theorem dX6_end_81 : decode cX6_end 81 = .ok (.iconst 1, 1) := by decide +kernel
theorem dX6_end_82 : decode cX6_end 82 = .ok (.goto 4, 3) := by decide +kernel
theorem dX6_end_85 : decode cX6_end 85 = .ok (.iconst 0, 1) := by decide +kernel
theorem dX6_end_86 : decode cX6_end 86 = .ok (.istore_n 2, 1) := by decide +kernel
theorem dX6_end_87 : decode cX6_end 87 = .ok (.iinc 3 1, 3) := by decide +kernel
theorem dX6_end_90 : decode cX6_end 90 = .ok (.goto (-30), 3) := by decide +kernel
theorem dX6_end_93 : decode cX6_end 93 = .ok (.iload_n 2, 1) := by decide +kernel
theorem dX6_end_94 : decode cX6_end 94 = .ok (.ifCond .ne 5, 3) := by decide +kernel
theorem dX6_end_97 : decode cX6_end 97 = .ok (.iconst 0, 1) := by decide +kernel
theorem dX6_end_98 : decode cX6_end 98 = .ok (.ireturn, 1) := by decide +kernel
theorem dX6_end_99 : decode cX6_end 99 = .ok (.aload_n 0, 1) := by decide +kernel
theorem dX6_end_100 : decode cX6_end 100 = .ok (.sipush 4200, 3) := by decide +kernel
theorem dX6_end_103 : decode cX6_end 103 = .ok (.iload_n 1, 1) := by decide +kernel
theorem dX6_end_104 : decode cX6_end 104 = .ok (.aload_n 0, 1) := by decide +kernel
theorem dX6_end_105 : decode cX6_end 105 = .ok (.getfield 138, 3) := by decide +kernel
theorem dX6_end_108 : decode cX6_end 108 = .ok (.i2l, 1) := by decide +kernel
theorem dX6_end_109 : decode cX6_end 109 = .ok (.aload_n 0, 1) := by decide +kernel
theorem dX6_end_110 : decode cX6_end 110 = .ok (.getfield 114, 3) := by decide +kernel
theorem dX6_end_113 : decode cX6_end 113 = .ok (.lsub, 1) := by decide +kernel
theorem dX6_end_114 : decode cX6_end 114 = .ok (.invokevirtual 162, 3) := by decide +kernel
theorem dX6_end_117 : decode cX6_end 117 = .ok (.aload_n 0, 1) := by decide +kernel
theorem dX6_end_118 : decode cX6_end 118 = .ok (.getfield 95, 3) := by decide +kernel
theorem dX6_end_121 : decode cX6_end 121 = .ok (.bipush 8, 2) := by decide +kernel
theorem dX6_end_123 : decode cX6_end 123 = .ok (.if_icmp .ne 7, 3) := by decide +kernel
theorem dX6_end_126 : decode cX6_end 126 = .ok (.aload_n 0, 1) := by decide +kernel
theorem dX6_end_127 : decode cX6_end 127 = .ok (.invokevirtual 166, 3) := by decide +kernel
theorem dX6_end_130 : decode cX6_end 130 = .ok (.sipush 8400, 3) := by decide +kernel
theorem dX6_end_133 : decode cX6_end 133 = .ok (.istore_n 3, 1) := by decide +kernel
theorem dX6_end_134 : decode cX6_end 134 = .ok (.iconst 0, 1) := by decide +kernel
theorem dX6_end_135 : decode cX6_end 135 = .ok (.istore 4, 2) := by decide +kernel
theorem dX6_end_137 : decode cX6_end 137 = .ok (.iload 4, 2) := by decide +kernel
theorem dX6_end_139 : decode cX6_end 139 = .ok (.aload_n 0, 1) := by decide +kernel
theorem dX6_end_140 : decode cX6_end 140 = .ok (.getfield 95, 3) := by decide +kernel
theorem dX6_end_143 : decode cX6_end 143 = .ok (.if_icmp .ge 19, 3) := by decide +kernel
theorem dX6_end_146 : decode cX6_end 146 = .ok (.iload_n 3, 1) := by decide +kernel
theorem dX6_end_147 : decode cX6_end 147 = .ok (.aload_n 0, 1) := by decide +kernel
theorem dX6_end_148 : decode cX6_end 148 = .ok (.getfield 35, 3) := by decide +kernel
theorem dX6_end_151 : decode cX6_end 151 = .ok (.iload 4, 2) := by decide +kernel
theorem dX6_end_153 : decode cX6_end 153 = .ok (.iaload, 1) := by decide +kernel
theorem dX6_end_154 : decode cX6_end 154 = .ok (.iadd, 1) := by decide +kernel
theorem dX6_end_155 : decode cX6_end 155 = .ok (.istore_n 3, 1) := by decide +kernel
theorem dX6_end_156 : decode cX6_end 156 = .ok (.iinc 4 1, 3) := by decide +kernel
theorem dX6_end_159 : decode cX6_end 159 = .ok (.goto (-22), 3) := by decide +kernel
theorem dX6_end_162 : decode cX6_end 162 = .ok (.iconst 0, 1) := by decide +kernel
theorem dX6_end_163 : decode cX6_end 163 = .ok (.istore 4, 2) := by decide +kernel
theorem dX6_end_165 : decode cX6_end 165 = .ok (.iload 4, 2) := by decide +kernel
theorem dX6_end_167 : decode cX6_end 167 = .ok (.iload_n 1, 1) := by decide +kernel
theorem dX6_end_168 : decode cX6_end 168 = .ok (.if_icmp .ge 23, 3) := by decide +kernel
theorem dX6_end_171 : decode cX6_end 171 = .ok (.aload_n 0, 1) := by decide +kernel
theorem dX6_end_172 : decode cX6_end 172 = .ok (.sipush 4200, 3) := by decide +kernel
theorem dX6_end_175 : decode cX6_end 175 = .ok (.iload 4, 2) := by decide +kernel
theorem dX6_end_177 : decode cX6_end 177 = .ok (.iadd, 1) := by decide +kernel
theorem dX6_end_178 : decode cX6_end 178 = .ok (.iload_n 3, 1) := by decide +kernel
theorem dX6_end_179 : decode cX6_end 179 = .ok (.iload 4, 2) := by decide +kernel
theorem dX6_end_181 : decode cX6_end 181 = .ok (.iadd, 1) := by decide +kernel
theorem dX6_end_182 : decode cX6_end 182 = .ok (.invokevirtual 110, 3) := by decide +kernel
theorem dX6_end_185 : decode cX6_end 185 = .ok (.iinc 4 1, 3) := by decide +kernel
theorem dX6_end_188 : decode cX6_end 188 = .ok (.goto (-23), 3) := by decide +kernel
theorem dX6_end_191 : decode cX6_end 191 = .ok (.aload_n 0, 1) := by decide +kernel
theorem dX6_end_192 : decode cX6_end 192 = .ok (.getfield 35, 3) := by decide +kernel
theorem dX6_end_195 : decode cX6_end 195 = .ok (.aload_n 0, 1) := by decide +kernel
theorem dX6_end_196 : decode cX6_end 196 = .ok (.getfield 95, 3) := by decide +kernel
theorem dX6_end_199 : decode cX6_end 199 = .ok (.iload_n 1, 1) := by decide +kernel
theorem dX6_end_200 : decode cX6_end 200 = .ok (.iastore, 1) := by decide +kernel
theorem dX6_end_201 : decode cX6_end 201 = .ok (.aload_n 0, 1) := by decide +kernel
theorem dX6_end_202 : decode cX6_end 202 = .ok (.getfield 38, 3) := by decide +kernel
theorem dX6_end_205 : decode cX6_end 205 = .ok (.aload_n 0, 1) := by decide +kernel
theorem dX6_end_206 : decode cX6_end 206 = .ok (.getfield 95, 3) := by decide +kernel
theorem dX6_end_209 : decode cX6_end 209 = .ok (.aload_n 0, 1) := by decide +kernel
theorem dX6_end_210 : decode cX6_end 210 = .ok (.getfield 138, 3) := by decide +kernel
theorem dX6_end_213 : decode cX6_end 213 = .ok (.iastore, 1) := by decide +kernel
theorem dX6_end_214 : decode cX6_end 214 = .ok (.aload_n 0, 1) := by decide +kernel
theorem dX6_end_215 : decode cX6_end 215 = .ok (.getfield 41, 3) := by decide +kernel
theorem dX6_end_218 : decode cX6_end 218 = .ok (.aload_n 0, 1) := by decide +kernel
theorem dX6_end_219 : decode cX6_end 219 = .ok (.getfield 95, 3) := by decide +kernel
theorem dX6_end_222 : decode cX6_end 222 = .ok (.aload_n 0, 1) := by decide +kernel
theorem dX6_end_223 : decode cX6_end 223 = .ok (.getfield 118, 3) := by decide +kernel
theorem dX6_end_226 : decode cX6_end 226 = .ok (.l2i, 1) := by decide +kernel
theorem dX6_end_227 : decode cX6_end 227 = .ok (.iastore, 1) := by decide +kernel
theorem dX6_end_228 : decode cX6_end 228 = .ok (.aload_n 0, 1) := by decide +kernel
theorem dX6_end_229 : decode cX6_end 229 = .ok (.getfield 44, 3) := by decide +kernel
theorem dX6_end_232 : decode cX6_end 232 = .ok (.aload_n 0, 1) := by decide +kernel
theorem dX6_end_233 : decode cX6_end 233 = .ok (.getfield 95, 3) := by decide +kernel
theorem dX6_end_236 : decode cX6_end 236 = .ok (.aload_n 0, 1) := by decide +kernel
theorem dX6_end_237 : decode cX6_end 237 = .ok (.getfield 121, 3) := by decide +kernel
theorem dX6_end_240 : decode cX6_end 240 = .ok (.l2i, 1) := by decide +kernel
theorem dX6_end_241 : decode cX6_end 241 = .ok (.iastore, 1) := by decide +kernel
theorem dX6_end_242 : decode cX6_end 242 = .ok (.aload_n 0, 1) := by decide +kernel
theorem dX6_end_243 : decode cX6_end 243 = .ok (.dup, 1) := by decide +kernel
theorem dX6_end_244 : decode cX6_end 244 = .ok (.getfield 95, 3) := by decide +kernel
theorem dX6_end_247 : decode cX6_end 247 = .ok (.iconst 1, 1) := by decide +kernel
theorem dX6_end_248 : decode cX6_end 248 = .ok (.iadd, 1) := by decide +kernel
theorem dX6_end_249 : decode cX6_end 249 = .ok (.putfield 95, 3) := by decide +kernel
theorem dX6_end_252 : decode cX6_end 252 = .ok (.aload_n 0, 1) := by decide +kernel
theorem dX6_end_253 : decode cX6_end 253 = .ok (.dup, 1) := by decide +kernel
