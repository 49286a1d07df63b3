theorem dX0_init_0 : decode cX0_init 0 = .ok (.aload_n 0, 1) := by decide +kernel
theorem dX0_init_1 : decode cX0_init 1 = .ok (.invokespecial 3, 3) := by decide +kernel
theorem dX0_init_4 : decode cX0_init 4 = .ok (.aload_n 0, 1) := by decide +kernel
theorem dX0_init_5 : decode cX0_init 5 = .ok (.iload_n 1, 1) := by decide +kernel
theorem dX0_init_6 : decode cX0_init 6 = .ok (.ifCond .le 10, 3) := by decide +kernel
theorem dX0_init_9 : decode cX0_init 9 = .ok (.iload_n 1, 1) := by decide +kernel
theorem dX0_init_10 : decode cX0_init 10 = .ok (.bipush 8, 2) := by decide +kernel
theorem dX0_init_12 : decode cX0_init 12 = .ok (.imul, 1) := by decide +kernel
theorem dX0_init_13 : decode cX0_init 13 = .ok (.goto 5, 3) := by decide +kernel
theorem dX0_init_16 : decode cX0_init 16 = .ok (.bipush 8, 2) := by decide +kernel
theorem dX0_init_18 : decode cX0_init 18 = .ok (.newarray .int, 2) := by decide +kernel
theorem dX0_init_20 : decode cX0_init 20 = .ok (.putfield 9, 3) := by decide +kernel
theorem dX0_init_23 : decode cX0_init 23 = .ok (.return_, 1) := by decide +kernel
theorem dX0_size_0 : decode cX0_size 0 = .ok (.aload_n 0, 1) := by decide +kernel
theorem dX0_size_1 : decode cX0_size 1 = .ok (.getfield 15, 3) := by decide +kernel
theorem dX0_size_4 : decode cX0_size 4 = .ok (.ireturn, 1) := by decide +kernel
theorem dX0_at_0 : decode cX0_at 0 = .ok (.iload_n 1, 1) := by decide +kernel
theorem dX0_at_1 : decode cX0_at 1 = .ok (.bipush 8, 2) := by decide +kernel
theorem dX0_at_3 : decode cX0_at 3 = .ok (.imul, 1) := by decide +kernel
theorem dX0_at_4 : decode cX0_at 4 = .ok (.iload_n 2, 1) := by decide +kernel
theorem dX0_at_5 : decode cX0_at 5 = .ok (.iadd, 1) := by decide +kernel
theorem dX0_at_6 : decode cX0_at 6 = .ok (.istore_n 3, 1) := by decide +kernel
theorem dX0_at_7 : decode cX0_at 7 = .ok (.iload_n 1, 1) := by decide +kernel
theorem dX0_at_8 : decode cX0_at 8 = .ok (.ifCond .lt 33, 3) := by decide +kernel
theorem dX0_at_11 : decode cX0_at 11 = .ok (.iload_n 1, 1) := by decide +kernel
theorem dX0_at_12 : decode cX0_at 12 = .ok (.aload_n 0, 1) := by decide +kernel
theorem dX0_at_13 : decode cX0_at 13 = .ok (.getfield 15, 3) := by decide +kernel
theorem dX0_at_16 : decode cX0_at 16 = .ok (.if_icmp .ge 25, 3) := by decide +kernel
theorem dX0_at_19 : decode cX0_at 19 = .ok (.iload_n 3, 1) := by decide +kernel
theorem dX0_at_20 : decode cX0_at 20 = .ok (.ifCond .lt 21, 3) := by decide +kernel
theorem dX0_at_23 : decode cX0_at 23 = .ok (.iload_n 3, 1) := by decide +kernel
theorem dX0_at_24 : decode cX0_at 24 = .ok (.aload_n 0, 1) := by decide +kernel
theorem dX0_at_25 : decode cX0_at 25 = .ok (.getfield 9, 3) := by decide +kernel
theorem dX0_at_28 : decode cX0_at 28 = .ok (.arraylength, 1) := by decide +kernel
theorem dX0_at_29 : decode cX0_at 29 = .ok (.if_icmp .ge 12, 3) := by decide +kernel
theorem dX0_at_32 : decode cX0_at 32 = .ok (.aload_n 0, 1) := by decide +kernel
theorem dX0_at_33 : decode cX0_at 33 = .ok (.getfield 9, 3) := by decide +kernel
theorem dX0_at_36 : decode cX0_at 36 = .ok (.iload_n 3, 1) := by decide +kernel
theorem dX0_at_37 : decode cX0_at 37 = .ok (.iaload, 1) := by decide +kernel
theorem dX0_at_38 : decode cX0_at 38 = .ok (.goto 4, 3) := by decide +kernel
theorem dX0_at_41 : decode cX0_at 41 = .ok (.iconst 0, 1) := by decide +kernel
theorem dX0_at_42 : decode cX0_at 42 = .ok (.ireturn, 1) := by decide +kernel
theorem dX0_put_0 : decode cX0_put 0 = .ok (.iload_n 1, 1) := by decide +kernel
theorem dX0_put_1 : decode cX0_put 1 = .ok (.bipush 8, 2) := by decide +kernel
theorem dX0_put_3 : decode cX0_put 3 = .ok (.imul, 1) := by decide +kernel
theorem dX0_put_4 : decode cX0_put 4 = .ok (.iload_n 2, 1) := by decide +kernel
theorem dX0_put_5 : decode cX0_put 5 = .ok (.iadd, 1) := by decide +kernel
theorem dX0_put_6 : decode cX0_put 6 = .ok (.istore 4, 2) := by decide +kernel
theorem dX0_put_8 : decode cX0_put 8 = .ok (.iload_n 1, 1) := by decide +kernel
theorem dX0_put_9 : decode cX0_put 9 = .ok (.ifCond .lt 34, 3) := by decide +kernel
theorem dX0_put_12 : decode cX0_put 12 = .ok (.iload_n 1, 1) := by decide +kernel
theorem dX0_put_13 : decode cX0_put 13 = .ok (.aload_n 0, 1) := by decide +kernel
theorem dX0_put_14 : decode cX0_put 14 = .ok (.getfield 15, 3) := by decide +kernel
theorem dX0_put_17 : decode cX0_put 17 = .ok (.if_icmp .ge 26, 3) := by decide +kernel
theorem dX0_put_20 : decode cX0_put 20 = .ok (.iload 4, 2) := by decide +kernel
theorem dX0_put_22 : decode cX0_put 22 = .ok (.ifCond .lt 21, 3) := by decide +kernel
theorem dX0_put_25 : decode cX0_put 25 = .ok (.iload 4, 2) := by decide +kernel
theorem dX0_put_27 : decode cX0_put 27 = .ok (.aload_n 0, 1) := by decide +kernel
theorem dX0_put_28 : decode cX0_put 28 = .ok (.getfield 9, 3) := by decide +kernel
theorem dX0_put_31 : decode cX0_put 31 = .ok (.arraylength, 1) := by decide +kernel
theorem dX0_put_32 : decode cX0_put 32 = .ok (.if_icmp .ge 11, 3) := by decide +kernel
theorem dX0_put_35 : decode cX0_put 35 = .ok (.aload_n 0, 1) := by decide +kernel
theorem dX0_put_36 : decode cX0_put 36 = .ok (.getfield 9, 3) := by decide +kernel
theorem dX0_put_39 : decode cX0_put 39 = .ok (.iload 4, 2) := by decide +kernel
theorem dX0_put_41 : decode cX0_put 41 = .ok (.iload_n 3, 1) := by decide +kernel
theorem dX0_put_42 : decode cX0_put 42 = .ok (.iastore, 1) := by decide +kernel
theorem dX0_put_43 : decode cX0_put 43 = .ok (.return_, 1) := by decide +kernel
set_option maxRecDepth 20000 in
theorem ggX0_append_X0_makeRoom : GoodIn wsX0_append wsX0_makeRoom := goodIn_r _ [7, 2, 8, 9, 10, 11, 12, 13, 14, 15, 16, 17, 18, 19, 20, 21, 22, 23, 24, 25, 26, 27, 28, 29, 30, 31, 32] (by decide +kernel) (by decide +kernel)
set_option maxRecDepth 20000 in
theorem gX0_append_X0_makeRoom : GoodIn wsX0_append (wsV RX0 19 RX0 yX0_makeRoom wsX0_makeRoom) := goodIn_app (goodIn_of _ (by decide +kernel)) ggX0_append_X0_makeRoom
theorem dX0_append_0 : decode cX0_append 0 = .ok (.aload_n 0, 1) := by decide +kernel
theorem dX0_append_1 : decode cX0_append 1 = .ok (.aload_n 0, 1) := by decide +kernel
theorem dX0_append_2 : decode cX0_append 2 = .ok (.getfield 15, 3) := by decide +kernel
theorem dX0_append_5 : decode cX0_append 5 = .ok (.iconst 1, 1) := by decide +kernel
theorem dX0_append_6 : decode cX0_append 6 = .ok (.iadd, 1) := by decide +kernel
theorem dX0_append_7 : decode cX0_append 7 = .ok (.invokevirtual 19, 3) := by decide +kernel
theorem dX0_append_10 : decode cX0_append 10 = .ok (.aload_n 0, 1) := by decide +kernel
theorem dX0_append_11 : decode cX0_append 11 = .ok (.getfield 15, 3) := by decide +kernel
theorem dX0_append_14 : decode cX0_append 14 = .ok (.iconst 1, 1) := by decide +kernel
theorem dX0_append_15 : decode cX0_append 15 = .ok (.iadd, 1) := by decide +kernel
theorem dX0_append_16 : decode cX0_append 16 = .ok (.bipush 8, 2) := by decide +kernel
theorem dX0_append_18 : decode cX0_append 18 = .ok (.imul, 1) := by decide +kernel
theorem dX0_append_19 : decode cX0_append 19 = .ok (.aload_n 0, 1) := by decide +kernel
theorem dX0_append_20 : decode cX0_append 20 = .ok (.getfield 9, 3) := by decide +kernel
theorem dX0_append_23 : decode cX0_append 23 = .ok (.arraylength, 1) := by decide +kernel
theorem dX0_append_24 : decode cX0_append 24 = .ok (.if_icmp .gt 13, 3) := by decide +kernel
theorem dX0_append_27 : decode cX0_append 27 = .ok (.aload_n 0, 1) := by decide +kernel
theorem dX0_append_28 : decode cX0_append 28 = .ok (.dup, 1) := by decide +kernel
theorem dX0_append_29 : decode cX0_append 29 = .ok (.getfield 15, 3) := by decide +kernel
theorem dX0_append_32 : decode cX0_append 32 = .ok (.iconst 1, 1) := by decide +kernel
theorem dX0_append_33 : decode cX0_append 33 = .ok (.iadd, 1) := by decide +kernel
theorem dX0_append_34 : decode cX0_append 34 = .ok (.putfield 15, 3) := by decide +kernel
theorem dX0_append_37 : decode cX0_append 37 = .ok (.aload_n 0, 1) := by decide +kernel
theorem dX0_append_38 : decode cX0_append 38 = .ok (.getfield 15, 3) := by decide +kernel
theorem dX0_append_41 : decode cX0_append 41 = .ok (.iconst 1, 1) := by decide +kernel
theorem dX0_append_42 : decode cX0_append 42 = .ok (.isub, 1) := by decide +kernel
theorem dX0_append_43 : decode cX0_append 43 = .ok (.ireturn, 1) := by decide +kernel
set_option maxRecDepth 20000 in
theorem ggX0_makePlain_X0_put : GoodIn wsX0_makePlain wsX0_put := goodIn_r _ [5, 6, 7, 8, 9] (by decide +kernel) (by decide +kernel)
set_option maxRecDepth 20000 in
theorem gX0_makePlain_X0_put : GoodIn wsX0_makePlain (wsV RX0 23 RX0 yX0_put wsX0_put) := goodIn_app (goodIn_of _ (by decide +kernel)) ggX0_makePlain_X0_put
theorem dX0_makePlain_0 : decode cX0_makePlain 0 = .ok (.iconst 0, 1) := by decide +kernel
theorem dX0_makePlain_1 : decode cX0_makePlain 1 = .ok (.istore 4, 2) := by decide +kernel
theorem dX0_makePlain_3 : decode cX0_makePlain 3 = .ok (.iload 4, 2) := by decide +kernel
theorem dX0_makePlain_5 : decode cX0_makePlain 5 = .ok (.bipush 8, 2) := by decide +kernel
theorem dX0_makePlain_7 : decode cX0_makePlain 7 = .ok (.if_icmp .ge 17, 3) := by decide +kernel
theorem dX0_makePlain_10 : decode cX0_makePlain 10 = .ok (.aload_n 0, 1) := by decide +kernel
theorem dX0_makePlain_11 : decode cX0_makePlain 11 = .ok (.iload_n 1, 1) := by decide +kernel
theorem dX0_makePlain_12 : decode cX0_makePlain 12 = .ok (.iload 4, 2) := by decide +kernel
theorem dX0_makePlain_14 : decode cX0_makePlain 14 = .ok (.iconst 0, 1) := by decide +kernel
theorem dX0_makePlain_15 : decode cX0_makePlain 15 = .ok (.invokevirtual 23, 3) := by decide +kernel
theorem dX0_makePlain_18 : decode cX0_makePlain 18 = .ok (.iinc 4 1, 3) := by decide +kernel
theorem dX0_makePlain_21 : decode cX0_makePlain 21 = .ok (.goto (-18), 3) := by decide +kernel
theorem dX0_makePlain_24 : decode cX0_makePlain 24 = .ok (.aload_n 0, 1) := by decide +kernel
theorem dX0_makePlain_25 : decode cX0_makePlain 25 = .ok (.iload_n 1, 1) := by decide +kernel
theorem dX0_makePlain_26 : decode cX0_makePlain 26 = .ok (.iconst 0, 1) := by decide +kernel
theorem dX0_makePlain_27 : decode cX0_makePlain 27 = .ok (.iload_n 2, 1) := by decide +kernel
theorem dX0_makePlain_28 : decode cX0_makePlain 28 = .ok (.invokevirtual 23, 3) := by decide +kernel
theorem dX0_makePlain_31 : decode cX0_makePlain 31 = .ok (.aload_n 0, 1) := by decide +kernel
theorem dX0_makePlain_32 : decode cX0_makePlain 32 = .ok (.iload_n 1, 1) := by decide +kernel
theorem dX0_makePlain_33 : decode cX0_makePlain 33 = .ok (.iconst 1, 1) := by decide +kernel
theorem dX0_makePlain_34 : decode cX0_makePlain 34 = .ok (.iload_n 3, 1) := by decide +kernel
theorem dX0_makePlain_35 : decode cX0_makePlain 35 = .ok (.invokevirtual 23, 3) := by decide +kernel
theorem dX0_makePlain_38 : decode cX0_makePlain 38 = .ok (.return_, 1) := by decide +kernel
set_option maxRecDepth 20000 in
theorem ggX0_makeSolid_X0_makePlain : GoodIn wsX0_makeSolid wsX0_makePlain := goodIn_r _ [5, 6, 7, 8, 4, 9, 10, 11, 12, 13] (by decide +kernel) (by decide +kernel)
set_option maxRecDepth 20000 in
theorem gX0_makeSolid_X0_makePlain : GoodIn wsX0_makeSolid (wsV RX0 27 RX0 yX0_makePlain wsX0_makePlain) := goodIn_app (goodIn_of _ (by decide +kernel)) ggX0_makeSolid_X0_makePlain
set_option maxRecDepth 20000 in
theorem ggX0_makeSolid_X0_put : GoodIn wsX0_makeSolid wsX0_put := goodIn_r _ [9, 10, 11, 12, 13] (by decide +kernel) (by decide +kernel)
set_option maxRecDepth 20000 in
theorem gX0_makeSolid_X0_put : GoodIn wsX0_makeSolid (wsV RX0 23 RX0 yX0_put wsX0_put) := goodIn_app (goodIn_of _ (by decide +kernel)) ggX0_makeSolid_X0_put
theorem dX0_makeSolid_0 : decode cX0_makeSolid 0 = .ok (.aload_n 0, 1) := by decide +kernel
theorem dX0_makeSolid_1 : decode cX0_makeSolid 1 = .ok (.iload_n 1, 1) := by decide +kernel
theorem dX0_makeSolid_2 : decode cX0_makeSolid 2 = .ok (.iload_n 2, 1) := by decide +kernel
theorem dX0_makeSolid_3 : decode cX0_makeSolid 3 = .ok (.iload_n 3, 1) := by decide +kernel
theorem dX0_makeSolid_4 : decode cX0_makeSolid 4 = .ok (.invokevirtual 27, 3) := by decide +kernel
theorem dX0_makeSolid_7 : decode cX0_makeSolid 7 = .ok (.aload_n 0, 1) := by decide +kernel
theorem dX0_makeSolid_8 : decode cX0_makeSolid 8 = .ok (.iload_n 1, 1) := by decide +kernel
theorem dX0_makeSolid_9 : decode cX0_makeSolid 9 = .ok (.iconst 2, 1) := by decide +kernel
theorem dX0_makeSolid_10 : decode cX0_makeSolid 10 = .ok (.iload 4, 2) := by decide +kernel
theorem dX0_makeSolid_12 : decode cX0_makeSolid 12 = .ok (.invokevirtual 23, 3) := by decide +kernel
theorem dX0_makeSolid_15 : decode cX0_makeSolid 15 = .ok (.aload_n 0, 1) := by decide +kernel
theorem dX0_makeSolid_16 : decode cX0_makeSolid 16 = .ok (.iload_n 1, 1) := by decide +kernel
theorem dX0_makeSolid_17 : decode cX0_makeSolid 17 = .ok (.iconst 3, 1) := by decide +kernel
theorem dX0_makeSolid_18 : decode cX0_makeSolid 18 = .ok (.iload 5, 2) := by decide +kernel
theorem dX0_makeSolid_20 : decode cX0_makeSolid 20 = .ok (.invokevirtual 23, 3) := by decide +kernel
theorem dX0_makeSolid_23 : decode cX0_makeSolid 23 = .ok (.aload_n 0, 1) := by decide +kernel
theorem dX0_makeSolid_24 : decode cX0_makeSolid 24 = .ok (.iload_n 1, 1) := by decide +kernel
theorem dX0_makeSolid_25 : decode cX0_makeSolid 25 = .ok (.iconst 4, 1) := by decide +kernel
theorem dX0_makeSolid_26 : decode cX0_makeSolid 26 = .ok (.iload 6, 2) := by decide +kernel
theorem dX0_makeSolid_28 : decode cX0_makeSolid 28 = .ok (.invokevirtual 23, 3) := by decide +kernel
theorem dX0_makeSolid_31 : decode cX0_makeSolid 31 = .ok (.return_, 1) := by decide +kernel
set_option maxRecDepth 20000 in
theorem ggX0_makeGlue_X0_makePlain : GoodIn wsX0_makeGlue wsX0_makePlain := goodIn_r _ [5, 6, 7, 8, 4, 9, 10, 11, 12, 13] (by decide +kernel) (by decide +kernel)
set_option maxRecDepth 20000 in
theorem gX0_makeGlue_X0_makePlain : GoodIn wsX0_makeGlue (wsV RX0 27 RX0 yX0_makePlain wsX0_makePlain) := goodIn_app (goodIn_of _ (by decide +kernel)) ggX0_makeGlue_X0_makePlain
set_option maxRecDepth 20000 in
theorem ggX0_makeGlue_X0_put : GoodIn wsX0_makeGlue wsX0_put := goodIn_r _ [9, 10, 11, 12, 13] (by decide +kernel) (by decide +kernel)
set_option maxRecDepth 20000 in
theorem gX0_makeGlue_X0_put : GoodIn wsX0_makeGlue (wsV RX0 23 RX0 yX0_put wsX0_put) := goodIn_app (goodIn_of _ (by decide +kernel)) ggX0_makeGlue_X0_put
theorem dX0_makeGlue_0 : decode cX0_makeGlue 0 = .ok (.aload_n 0, 1) := by decide +kernel
theorem dX0_makeGlue_1 : decode cX0_makeGlue 1 = .ok (.iload_n 1, 1) := by decide +kernel
theorem dX0_makeGlue_2 : decode cX0_makeGlue 2 = .ok (.iconst 5, 1) := by decide +kernel
theorem dX0_makeGlue_3 : decode cX0_makeGlue 3 = .ok (.iload_n 2, 1) := by decide +kernel
theorem dX0_makeGlue_4 : decode cX0_makeGlue 4 = .ok (.invokevirtual 27, 3) := by decide +kernel
theorem dX0_makeGlue_7 : decode cX0_makeGlue 7 = .ok (.aload_n 0, 1) := by decide +kernel
theorem dX0_makeGlue_8 : decode cX0_makeGlue 8 = .ok (.iload_n 1, 1) := by decide +kernel
theorem dX0_makeGlue_9 : decode cX0_makeGlue 9 = .ok (.iconst 5, 1) := by decide +kernel
theorem dX0_makeGlue_10 : decode cX0_makeGlue 10 = .ok (.iload_n 3, 1) := by decide +kernel
theorem dX0_makeGlue_11 : decode cX0_makeGlue 11 = .ok (.invokevirtual 23, 3) := by decide +kernel
theorem dX0_makeGlue_14 : decode cX0_makeGlue 14 = .ok (.aload_n 0, 1) := by decide +kernel
theorem dX0_makeGlue_15 : decode cX0_makeGlue 15 = .ok (.iload_n 1, 1) := by decide +kernel
theorem dX0_makeGlue_16 : decode cX0_makeGlue 16 = .ok (.bipush 6, 2) := by decide +kernel
theorem dX0_makeGlue_18 : decode cX0_makeGlue 18 = .ok (.iload 4, 2) := by decide +kernel
theorem dX0_makeGlue_20 : decode cX0_makeGlue 20 = .ok (.invokevirtual 23, 3) := by decide +kernel
theorem dX0_makeGlue_23 : decode cX0_makeGlue 23 = .ok (.aload_n 0, 1) := by decide +kernel
theorem dX0_makeGlue_24 : decode cX0_makeGlue 24 = .ok (.iload_n 1, 1) := by decide +kernel
theorem dX0_makeGlue_25 : decode cX0_makeGlue 25 = .ok (.bipush 7, 2) := by decide +kernel
theorem dX0_makeGlue_27 : decode cX0_makeGlue 27 = .ok (.iload 5, 2) := by decide +kernel
theorem dX0_makeGlue_29 : decode cX0_makeGlue 29 = .ok (.invokevirtual 23, 3) := by decide +kernel
theorem dX0_makeGlue_32 : decode cX0_makeGlue 32 = .ok (.return_, 1) := by decide +kernel
set_option maxRecDepth 20000 in
theorem ggX0_copyFrom_X0_makeRoom : GoodIn wsX0_copyFrom wsX0_makeRoom := goodIn_r _ [11, 2, 12, 13, 14, 15, 16, 17, 18, 19, 20, 21, 22, 23, 24, 25, 26, 27, 28, 29, 30, 31, 4, 5, 6, 32, 33] (by decide +kernel) (by decide +kernel)
set_option maxRecDepth 20000 in
theorem gX0_copyFrom_X0_makeRoom : GoodIn wsX0_copyFrom (wsV RX0 19 RX0 yX0_makeRoom wsX0_makeRoom) := goodIn_app (goodIn_of _ (by decide +kernel)) ggX0_copyFrom_X0_makeRoom
theorem dX0_copyFrom_0 : decode cX0_copyFrom 0 = .ok (.aload_n 0, 1) := by decide +kernel
theorem dX0_copyFrom_1 : decode cX0_copyFrom 1 = .ok (.iconst 0, 1) := by decide +kernel
theorem dX0_copyFrom_2 : decode cX0_copyFrom 2 = .ok (.putfield 15, 3) := by decide +kernel
theorem dX0_copyFrom_5 : decode cX0_copyFrom 5 = .ok (.iload_n 2, 1) := by decide +kernel
theorem dX0_copyFrom_6 : decode cX0_copyFrom 6 = .ok (.ifCond .lt 16, 3) := by decide +kernel
theorem dX0_copyFrom_9 : decode cX0_copyFrom 9 = .ok (.iload_n 3, 1) := by decide +kernel
theorem dX0_copyFrom_10 : decode cX0_copyFrom 10 = .ok (.aload_n 1, 1) := by decide +kernel
theorem dX0_copyFrom_11 : decode cX0_copyFrom 11 = .ok (.getfield 15, 3) := by decide +kernel
theorem dX0_copyFrom_14 : decode cX0_copyFrom 14 = .ok (.if_icmp .gt 8, 3) := by decide +kernel
theorem dX0_copyFrom_17 : decode cX0_copyFrom 17 = .ok (.iload_n 2, 1) := by decide +kernel
theorem dX0_copyFrom_18 : decode cX0_copyFrom 18 = .ok (.iload_n 3, 1) := by decide +kernel
theorem dX0_copyFrom_19 : decode cX0_copyFrom 19 = .ok (.if_icmp .le 4, 3) := by decide +kernel
theorem dX0_copyFrom_22 : decode cX0_copyFrom 22 = .ok (.return_, 1) := by decide +kernel
theorem dX0_copyFrom_23 : decode cX0_copyFrom 23 = .ok (.iload_n 3, 1) := by decide +kernel
theorem dX0_copyFrom_24 : decode cX0_copyFrom 24 = .ok (.iload_n 2, 1) := by decide +kernel
theorem dX0_copyFrom_25 : decode cX0_copyFrom 25 = .ok (.isub, 1) := by decide +kernel
theorem dX0_copyFrom_26 : decode cX0_copyFrom 26 = .ok (.istore 4, 2) := by decide +kernel
theorem dX0_copyFrom_28 : decode cX0_copyFrom 28 = .ok (.aload_n 0, 1) := by decide +kernel
theorem dX0_copyFrom_29 : decode cX0_copyFrom 29 = .ok (.iload 4, 2) := by decide +kernel
theorem dX0_copyFrom_31 : decode cX0_copyFrom 31 = .ok (.invokevirtual 19, 3) := by decide +kernel
theorem dX0_copyFrom_34 : decode cX0_copyFrom 34 = .ok (.iload 4, 2) := by decide +kernel
theorem dX0_copyFrom_36 : decode cX0_copyFrom 36 = .ok (.bipush 8, 2) := by decide +kernel
theorem dX0_copyFrom_38 : decode cX0_copyFrom 38 = .ok (.imul, 1) := by decide +kernel
theorem dX0_copyFrom_39 : decode cX0_copyFrom 39 = .ok (.aload_n 0, 1) := by decide +kernel
theorem dX0_copyFrom_40 : decode cX0_copyFrom 40 = .ok (.getfield 9, 3) := by decide +kernel
theorem dX0_copyFrom_43 : decode cX0_copyFrom 43 = .ok (.arraylength, 1) := by decide +kernel
theorem dX0_copyFrom_44 : decode cX0_copyFrom 44 = .ok (.if_icmp .gt 30, 3) := by decide +kernel
theorem dX0_copyFrom_47 : decode cX0_copyFrom 47 = .ok (.aload_n 1, 1) := by decide +kernel
theorem dX0_copyFrom_48 : decode cX0_copyFrom 48 = .ok (.getfield 9, 3) := by decide +kernel
theorem dX0_copyFrom_51 : decode cX0_copyFrom 51 = .ok (.iload_n 2, 1) := by decide +kernel
theorem dX0_copyFrom_52 : decode cX0_copyFrom 52 = .ok (.bipush 8, 2) := by decide +kernel
theorem dX0_copyFrom_54 : decode cX0_copyFrom 54 = .ok (.imul, 1) := by decide +kernel
theorem dX0_copyFrom_55 : decode cX0_copyFrom 55 = .ok (.aload_n 0, 1) := by decide +kernel
theorem dX0_copyFrom_56 : decode cX0_copyFrom 56 = .ok (.getfield 9, 3) := by decide +kernel
theorem dX0_copyFrom_59 : decode cX0_copyFrom 59 = .ok (.iconst 0, 1) := by decide +kernel
theorem dX0_copyFrom_60 : decode cX0_copyFrom 60 = .ok (.iload 4, 2) := by decide +kernel
theorem dX0_copyFrom_62 : decode cX0_copyFrom 62 = .ok (.bipush 8, 2) := by decide +kernel
theorem dX0_copyFrom_64 : decode cX0_copyFrom 64 = .ok (.imul, 1) := by decide +kernel
theorem dX0_copyFrom_65 : decode cX0_copyFrom 65 = .ok (.invokestatic 30, 3) := by decide +kernel
theorem dX0_copyFrom_68 : decode cX0_copyFrom 68 = .ok (.aload_n 0, 1) := by decide +kernel
theorem dX0_copyFrom_69 : decode cX0_copyFrom 69 = .ok (.iload 4, 2) := by decide +kernel
theorem dX0_copyFrom_71 : decode cX0_copyFrom 71 = .ok (.putfield 15, 3) := by decide +kernel
theorem dX0_copyFrom_74 : decode cX0_copyFrom 74 = .ok (.return_, 1) := by decide +kernel
theorem dX0_dropFirst_0 : decode cX0_dropFirst 0 = .ok (.iload_n 1, 1) := by decide +kernel
theorem dX0_dropFirst_1 : decode cX0_dropFirst 1 = .ok (.ifCond .le 11, 3) := by decide +kernel
theorem dX0_dropFirst_4 : decode cX0_dropFirst 4 = .ok (.iload_n 1, 1) := by decide +kernel
theorem dX0_dropFirst_5 : decode cX0_dropFirst 5 = .ok (.aload_n 0, 1) := by decide +kernel
theorem dX0_dropFirst_6 : decode cX0_dropFirst 6 = .ok (.getfield 15, 3) := by decide +kernel
theorem dX0_dropFirst_9 : decode cX0_dropFirst 9 = .ok (.if_icmp .le 4, 3) := by decide +kernel
theorem dX0_dropFirst_12 : decode cX0_dropFirst 12 = .ok (.return_, 1) := by decide +kernel
theorem dX0_dropFirst_13 : decode cX0_dropFirst 13 = .ok (.aload_n 0, 1) := by decide +kernel
theorem dX0_dropFirst_14 : decode cX0_dropFirst 14 = .ok (.getfield 9, 3) := by decide +kernel
theorem dX0_dropFirst_17 : decode cX0_dropFirst 17 = .ok (.iload_n 1, 1) := by decide +kernel
theorem dX0_dropFirst_18 : decode cX0_dropFirst 18 = .ok (.bipush 8, 2) := by decide +kernel
theorem dX0_dropFirst_20 : decode cX0_dropFirst 20 = .ok (.imul, 1) := by decide +kernel
theorem dX0_dropFirst_21 : decode cX0_dropFirst 21 = .ok (.aload_n 0, 1) := by decide +kernel
theorem dX0_dropFirst_22 : decode cX0_dropFirst 22 = .ok (.getfield 9, 3) := by decide +kernel
theorem dX0_dropFirst_25 : decode cX0_dropFirst 25 = .ok (.iconst 0, 1) := by decide +kernel
theorem dX0_dropFirst_26 : decode cX0_dropFirst 26 = .ok (.aload_n 0, 1) := by decide +kernel
theorem dX0_dropFirst_27 : decode cX0_dropFirst 27 = .ok (.getfield 15, 3) := by decide +kernel
theorem dX0_dropFirst_30 : decode cX0_dropFirst 30 = .ok (.iload_n 1, 1) := by decide +kernel
theorem dX0_dropFirst_31 : decode cX0_dropFirst 31 = .ok (.isub, 1) := by decide +kernel
theorem dX0_dropFirst_32 : decode cX0_dropFirst 32 = .ok (.bipush 8, 2) := by decide +kernel
theorem dX0_dropFirst_34 : decode cX0_dropFirst 34 = .ok (.imul, 1) := by decide +kernel
theorem dX0_dropFirst_35 : decode cX0_dropFirst 35 = .ok (.invokestatic 30, 3) := by decide +kernel
theorem dX0_dropFirst_38 : decode cX0_dropFirst 38 = .ok (.aload_n 0, 1) := by decide +kernel
theorem dX0_dropFirst_39 : decode cX0_dropFirst 39 = .ok (.dup, 1) := by decide +kernel
theorem dX0_dropFirst_40 : decode cX0_dropFirst 40 = .ok (.getfield 15, 3) := by decide +kernel
theorem dX0_dropFirst_43 : decode cX0_dropFirst 43 = .ok (.iload_n 1, 1) := by decide +kernel
theorem dX0_dropFirst_44 : decode cX0_dropFirst 44 = .ok (.isub, 1) := by decide +kernel
theorem dX0_dropFirst_45 : decode cX0_dropFirst 45 = .ok (.putfield 15, 3) := by decide +kernel
theorem dX0_dropFirst_48 : decode cX0_dropFirst 48 = .ok (.return_, 1) := by decide +kernel
theorem dX0_clear_0 : decode cX0_clear 0 = .ok (.aload_n 0, 1) := by decide +kernel
theorem dX0_clear_1 : decode cX0_clear 1 = .ok (.iconst 0, 1) := by decide +kernel
theorem dX0_clear_2 : decode cX0_clear 2 = .ok (.putfield 15, 3) := by decide +kernel
theorem dX0_clear_5 : decode cX0_clear 5 = .ok (.return_, 1) := by decide +kernel
set_option maxRecDepth 20000 in
theorem ggX0_makeRoom_J7_copyOf_59c91 : GoodIn wsX0_makeRoom wsJ7_copyOf_59c91 := goodIn_r _ [12, 13, 14, 15, 16, 17, 18, 19, 20, 7, 4, 8, 21, 22, 23, 24] (by decide +kernel) (by decide +kernel)
set_option maxRecDepth 20000 in
theorem gX0_makeRoom_J7_copyOf_59c91 : GoodIn wsX0_makeRoom (va_wsS RX0 45 yJ7_copyOf_59c91 wsJ7_copyOf_59c91) := goodIn_app (goodIn_of _ (by decide +kernel)) ggX0_makeRoom_J7_copyOf_59c91
theorem dX0_makeRoom_0 : decode cX0_makeRoom 0 = .ok (.iload_n 1, 1) := by decide +kernel
theorem dX0_makeRoom_1 : decode cX0_makeRoom 1 = .ok (.bipush 8, 2) := by decide +kernel
theorem dX0_makeRoom_3 : decode cX0_makeRoom 3 = .ok (.imul, 1) := by decide +kernel
theorem dX0_makeRoom_4 : decode cX0_makeRoom 4 = .ok (.aload_n 0, 1) := by decide +kernel
theorem dX0_makeRoom_5 : decode cX0_makeRoom 5 = .ok (.getfield 9, 3) := by decide +kernel
theorem dX0_makeRoom_8 : decode cX0_makeRoom 8 = .ok (.arraylength, 1) := by decide +kernel
theorem dX0_makeRoom_9 : decode cX0_makeRoom 9 = .ok (.if_icmp .le 10, 3) := by decide +kernel
theorem dX0_makeRoom_12 : decode cX0_makeRoom 12 = .ok (.iload_n 1, 1) := by decide +kernel
theorem dX0_makeRoom_13 : decode cX0_makeRoom 13 = .ok (.sipush 4001, 3) := by decide +kernel
theorem dX0_makeRoom_16 : decode cX0_makeRoom 16 = .ok (.if_icmp .le 4, 3) := by decide +kernel
theorem dX0_makeRoom_19 : decode cX0_makeRoom 19 = .ok (.return_, 1) := by decide +kernel
theorem dX0_makeRoom_20 : decode cX0_makeRoom 20 = .ok (.sipush 4001, 3) := by decide +kernel
theorem dX0_makeRoom_23 : decode cX0_makeRoom 23 = .ok (.iload_n 1, 1) := by decide +kernel
theorem dX0_makeRoom_24 : decode cX0_makeRoom 24 = .ok (.iconst 2, 1) := by decide +kernel
theorem dX0_makeRoom_25 : decode cX0_makeRoom 25 = .ok (.aload_n 0, 1) := by decide +kernel
theorem dX0_makeRoom_26 : decode cX0_makeRoom 26 = .ok (.getfield 9, 3) := by decide +kernel
theorem dX0_makeRoom_29 : decode cX0_makeRoom 29 = .ok (.arraylength, 1) := by decide +kernel
theorem dX0_makeRoom_30 : decode cX0_makeRoom 30 = .ok (.bipush 8, 2) := by decide +kernel
theorem dX0_makeRoom_32 : decode cX0_makeRoom 32 = .ok (.idiv, 1) := by decide +kernel
theorem dX0_makeRoom_33 : decode cX0_makeRoom 33 = .ok (.imul, 1) := by decide +kernel
theorem dX0_makeRoom_34 : decode cX0_makeRoom 34 = .ok (.invokestatic 36, 3) := by decide +kernel
theorem dX0_makeRoom_37 : decode cX0_makeRoom 37 = .ok (.invokestatic 42, 3) := by decide +kernel
theorem dX0_makeRoom_40 : decode cX0_makeRoom 40 = .ok (.istore_n 2, 1) := by decide +kernel
theorem dX0_makeRoom_41 : decode cX0_makeRoom 41 = .ok (.aload_n 0, 1) := by decide +kernel
theorem dX0_makeRoom_42 : decode cX0_makeRoom 42 = .ok (.aload_n 0, 1) := by decide +kernel
theorem dX0_makeRoom_43 : decode cX0_makeRoom 43 = .ok (.getfield 9, 3) := by decide +kernel
theorem dX0_makeRoom_46 : decode cX0_makeRoom 46 = .ok (.iload_n 2, 1) := by decide +kernel
theorem dX0_makeRoom_47 : decode cX0_makeRoom 47 = .ok (.bipush 8, 2) := by decide +kernel
theorem dX0_makeRoom_49 : decode cX0_makeRoom 49 = .ok (.imul, 1) := by decide +kernel
theorem dX0_makeRoom_50 : decode cX0_makeRoom 50 = .ok (.invokestatic 45, 3) := by decide +kernel
theorem dX0_makeRoom_53 : decode cX0_makeRoom 53 = .ok (.putfield 9, 3) := by decide +kernel
theorem dX0_makeRoom_56 : decode cX0_makeRoom 56 = .ok (.return_, 1) := by decide +kernel
set_option maxRecDepth 20000 in
theorem ggX1_init_X0_init : GoodIn wsX1_init wsX0_init := goodIn_r _ [10, 11, 2, 3, 12, 13, 14, 15] (by decide +kernel) (by decide +kernel)
set_option maxRecDepth 20000 in
theorem gX1_init_X0_init : GoodIn wsX1_init (wsX0_init) := ggX1_init_X0_init
theorem dX1_init_0 : decode cX1_init 0 = .ok (.aload_n 0, 1) := by decide +kernel
theorem dX1_init_1 : decode cX1_init 1 = .ok (.invokespecial 3, 3) := by decide +kernel
theorem dX1_init_4 : decode cX1_init 4 = .ok (.aload_n 0, 1) := by decide +kernel
theorem dX1_init_5 : decode cX1_init 5 = .ok (.new 9, 3) := by decide +kernel
theorem dX1_init_8 : decode cX1_init 8 = .ok (.dup, 1) := by decide +kernel
theorem dX1_init_9 : decode cX1_init 9 = .ok (.bipush 8, 2) := by decide +kernel
theorem dX1_init_11 : decode cX1_init 11 = .ok (.invokespecial 11, 3) := by decide +kernel
theorem dX1_init_14 : decode cX1_init 14 = .ok (.putfield 14, 3) := by decide +kernel
theorem dX1_init_17 : decode cX1_init 17 = .ok (.return_, 1) := by decide +kernel
set_option maxRecDepth 20000 in
theorem ggX1_make_X0_copyFrom : GoodIn wsX1_make wsX0_copyFrom := goodIn_r _ [9, 10, 11, 12, 13, 14, 15, 16, 17, 18, 8, 19, 20, 21, 22, 23, 24, 25, 26, 27, 28, 29, 30, 31, 32, 33, 34, 35, 36, 37, 38, 39, 109, 110] (by decide +kernel) (by decide +kernel)
set_option maxRecDepth 20000 in
theorem gX1_make_X0_copyFrom : GoodIn wsX1_make (wsV RX1 20 RX0 yX0_copyFrom wsX0_copyFrom) := goodIn_app (goodIn_of _ (by decide +kernel)) ggX1_make_X0_copyFrom
set_option maxRecDepth 20000 in
theorem ggX1_make_X4_total : GoodIn wsX1_make wsX4_total := goodIn_r _ [44, 45, 46, 103, 104, 105, 106, 107, 108] (by decide +kernel) (by decide +kernel)
set_option maxRecDepth 20000 in
theorem gX1_make_X4_total : GoodIn wsX1_make (wsV RX1 41 RX4 yX4_total wsX4_total) := goodIn_app (goodIn_of _ (by decide +kernel)) ggX1_make_X4_total
set_option maxRecDepth 20000 in
theorem ggX1_make_X1_setGlue : GoodIn wsX1_make wsX1_setGlue := goodIn_r _ [51, 52, 53, 22, 54, 55, 56, 57, 43, 58, 59, 60, 61, 62, 63, 64, 65, 66, 50, 67, 1, 68, 69, 70, 8, 71, 10, 72, 73, 74, 75, 11, 76, 77, 78, 79, 80, 81, 82, 83, 84, 85, 86, 87, 88, 89, 90, 91, 92, 93, 94, 95, 96, 97, 98, 103, 104, 105, 106, 107, 108, 99, 100, 101, 102, 109, 110] (by decide +kernel) (by decide +kernel)
set_option maxRecDepth 20000 in
theorem gX1_make_X1_setGlue : GoodIn wsX1_make (wsV RX1 45 RX1 yX1_setGlue wsX1_setGlue) := goodIn_app (goodIn_of _ (by decide +kernel)) ggX1_make_X1_setGlue
theorem dX1_make_0 : decode cX1_make 0 = .ok (.aload_n 0, 1) := by decide +kernel
theorem dX1_make_1 : decode cX1_make 1 = .ok (.getfield 14, 3) := by decide +kernel
theorem dX1_make_4 : decode cX1_make 4 = .ok (.aload_n 1, 1) := by decide +kernel
theorem dX1_make_5 : decode cX1_make 5 = .ok (.iload_n 2, 1) := by decide +kernel
theorem dX1_make_6 : decode cX1_make 6 = .ok (.iload_n 3, 1) := by decide +kernel
theorem dX1_make_7 : decode cX1_make 7 = .ok (.invokevirtual 20, 3) := by decide +kernel
theorem dX1_make_10 : decode cX1_make 10 = .ok (.aload_n 0, 1) := by decide +kernel
theorem dX1_make_11 : decode cX1_make 11 = .ok (.iload 4, 2) := by decide +kernel
theorem dX1_make_13 : decode cX1_make 13 = .ok (.putfield 24, 3) := by decide +kernel
theorem dX1_make_16 : decode cX1_make 16 = .ok (.aload_n 0, 1) := by decide +kernel
theorem dX1_make_17 : decode cX1_make 17 = .ok (.aload 5, 2) := by decide +kernel
theorem dX1_make_19 : decode cX1_make 19 = .ok (.getfield 28, 3) := by decide +kernel
theorem dX1_make_22 : decode cX1_make 22 = .ok (.l2i, 1) := by decide +kernel
theorem dX1_make_23 : decode cX1_make 23 = .ok (.putfield 34, 3) := by decide +kernel
theorem dX1_make_26 : decode cX1_make 26 = .ok (.aload_n 0, 1) := by decide +kernel
theorem dX1_make_27 : decode cX1_make 27 = .ok (.aload 5, 2) := by decide +kernel
theorem dX1_make_29 : decode cX1_make 29 = .ok (.getfield 36, 3) := by decide +kernel
theorem dX1_make_32 : decode cX1_make 32 = .ok (.l2i, 1) := by decide +kernel
theorem dX1_make_33 : decode cX1_make 33 = .ok (.putfield 39, 3) := by decide +kernel
theorem dX1_make_36 : decode cX1_make 36 = .ok (.aload_n 0, 1) := by decide +kernel
theorem dX1_make_37 : decode cX1_make 37 = .ok (.iload 4, 2) := by decide +kernel
theorem dX1_make_39 : decode cX1_make 39 = .ok (.i2l, 1) := by decide +kernel
theorem dX1_make_40 : decode cX1_make 40 = .ok (.aload 5, 2) := by decide +kernel
theorem dX1_make_42 : decode cX1_make 42 = .ok (.invokevirtual 41, 3) := by decide +kernel
theorem dX1_make_45 : decode cX1_make 45 = .ok (.lsub, 1) := by decide +kernel
theorem dX1_make_46 : decode cX1_make 46 = .ok (.aload 5, 2) := by decide +kernel
theorem dX1_make_48 : decode cX1_make 48 = .ok (.invokevirtual 45, 3) := by decide +kernel
theorem dX1_make_51 : decode cX1_make 51 = .ok (.return_, 1) := by decide +kernel
set_option maxRecDepth 20000 in
theorem ggX1_setGlue_X4_highestOrder : GoodIn wsX1_setGlue wsX4_highestOrder := goodIn_r _ [9, 10, 55, 56, 57, 58, 59, 60] (by decide +kernel) (by decide +kernel)
set_option maxRecDepth 20000 in
theorem gX1_setGlue_X4_highestOrder : GoodIn wsX1_setGlue (wsV RX1 49 RX4 yX4_highestOrder wsX4_highestOrder) := goodIn_app (goodIn_of _ (by decide +kernel)) ggX1_setGlue_X4_highestOrder
set_option maxRecDepth 20000 in
theorem ggX1_setGlue_X4_stretchOf : GoodIn wsX1_setGlue wsX4_stretchOf := goodIn_r _ [14, 10, 55, 56, 57, 58, 59, 60] (by decide +kernel) (by decide +kernel)
set_option maxRecDepth 20000 in
theorem gX1_setGlue_X4_stretchOf : GoodIn wsX1_setGlue (wsV RX1 53 RX4 yX4_stretchOf wsX4_stretchOf) := goodIn_app (goodIn_of _ (by decide +kernel)) ggX1_setGlue_X4_stretchOf
set_option maxRecDepth 20000 in
theorem ggX1_setGlue_X1_spread : GoodIn wsX1_setGlue wsX1_spread := goodIn_r _ [19, 20, 21, 22, 23, 24, 25, 26, 27, 28, 29, 30, 31, 32, 33, 34, 18, 35, 36, 37, 38, 39, 40, 41, 3, 42, 43, 44, 45, 46, 47, 48, 49, 50, 1, 2, 4, 51, 52, 53, 54, 61, 62, 63, 64, 65, 66] (by decide +kernel) (by decide +kernel)
set_option maxRecDepth 20000 in
theorem gX1_setGlue_X1_spread : GoodIn wsX1_setGlue (wsV RX1 57 RX1 yX1_spread wsX1_spread) := goodIn_app (goodIn_of _ (by decide +kernel)) ggX1_setGlue_X1_spread
theorem dX1_setGlue_0 : decode cX1_setGlue 0 = .ok (.aload_n 3, 1) := by decide +kernel
theorem dX1_setGlue_1 : decode cX1_setGlue 1 = .ok (.invokevirtual 49, 3) := by decide +kernel
theorem dX1_setGlue_4 : decode cX1_setGlue 4 = .ok (.istore 4, 2) := by decide +kernel
theorem dX1_setGlue_6 : decode cX1_setGlue 6 = .ok (.lload_n 1, 1) := by decide +kernel
theorem dX1_setGlue_7 : decode cX1_setGlue 7 = .ok (.lconst 0, 1) := by decide +kernel
theorem dX1_setGlue_8 : decode cX1_setGlue 8 = .ok (.lcmp, 1) := by decide +kernel
theorem dX1_setGlue_9 : decode cX1_setGlue 9 = .ok (.ifCond .le 25, 3) := by decide +kernel
theorem dX1_setGlue_12 : decode cX1_setGlue 12 = .ok (.iload 4, 2) := by decide +kernel
theorem dX1_setGlue_14 : decode cX1_setGlue 14 = .ok (.iconst (-1), 1) := by decide +kernel
theorem dX1_setGlue_15 : decode cX1_setGlue 15 = .ok (.if_icmp .eq 19, 3) := by decide +kernel
theorem dX1_setGlue_18 : decode cX1_setGlue 18 = .ok (.aload_n 0, 1) := by decide +kernel
theorem dX1_setGlue_19 : decode cX1_setGlue 19 = .ok (.lload_n 1, 1) := by decide +kernel
theorem dX1_setGlue_20 : decode cX1_setGlue 20 = .ok (.aload_n 3, 1) := by decide +kernel
theorem dX1_setGlue_21 : decode cX1_setGlue 21 = .ok (.iload 4, 2) := by decide +kernel
theorem dX1_setGlue_23 : decode cX1_setGlue 23 = .ok (.invokevirtual 53, 3) := by decide +kernel
theorem dX1_setGlue_26 : decode cX1_setGlue 26 = .ok (.iload 4, 2) := by decide +kernel
theorem dX1_setGlue_28 : decode cX1_setGlue 28 = .ok (.invokevirtual 57, 3) := by decide +kernel
theorem dX1_setGlue_31 : decode cX1_setGlue 31 = .ok (.goto 27, 3) := by decide +kernel
theorem dX1_setGlue_34 : decode cX1_setGlue 34 = .ok (.lload_n 1, 1) := by decide +kernel
theorem dX1_setGlue_35 : decode cX1_setGlue 35 = .ok (.lconst 0, 1) := by decide +kernel
theorem dX1_setGlue_36 : decode cX1_setGlue 36 = .ok (.lcmp, 1) := by decide +kernel
theorem dX1_setGlue_37 : decode cX1_setGlue 37 = .ok (.ifCond .ge 21, 3) := by decide +kernel
theorem dX1_setGlue_40 : decode cX1_setGlue 40 = .ok (.aload_n 0, 1) := by decide +kernel
theorem dX1_setGlue_41 : decode cX1_setGlue 41 = .ok (.lload_n 1, 1) := by decide +kernel
theorem dX1_setGlue_42 : decode cX1_setGlue 42 = .ok (.aload_n 3, 1) := by decide +kernel
theorem dX1_setGlue_43 : decode cX1_setGlue 43 = .ok (.getfield 61, 3) := by decide +kernel
theorem dX1_setGlue_46 : decode cX1_setGlue 46 = .ok (.lneg, 1) := by decide +kernel
theorem dX1_setGlue_47 : decode cX1_setGlue 47 = .ok (.invokestatic 64, 3) := by decide +kernel
theorem dX1_setGlue_50 : decode cX1_setGlue 50 = .ok (.aload_n 3, 1) := by decide +kernel
theorem dX1_setGlue_51 : decode cX1_setGlue 51 = .ok (.getfield 61, 3) := by decide +kernel
theorem dX1_setGlue_54 : decode cX1_setGlue 54 = .ok (.iconst (-1), 1) := by decide +kernel
theorem dX1_setGlue_55 : decode cX1_setGlue 55 = .ok (.invokevirtual 57, 3) := by decide +kernel
theorem dX1_setGlue_58 : decode cX1_setGlue 58 = .ok (.return_, 1) := by decide +kernel
set_option maxRecDepth 20000 in
theorem ggX1_spread_X0_size : GoodIn wsX1_spread wsX0_size := goodIn_r _ [6, 7, 45, 46] (by decide +kernel) (by decide +kernel)
set_option maxRecDepth 20000 in
theorem gX1_spread_X0_size : GoodIn wsX1_spread (wsV RX1 70 RX0 yX0_size wsX0_size) := goodIn_app (goodIn_of _ (by decide +kernel)) ggX1_spread_X0_size
set_option maxRecDepth 20000 in
theorem ggX1_spread_X0_at : GoodIn wsX1_spread wsX0_at := goodIn_r _ [11, 7, 12, 45, 46] (by decide +kernel) (by decide +kernel)
set_option maxRecDepth 20000 in
theorem gX1_spread_X0_at : GoodIn wsX1_spread (wsV RX1 73 RX0 yX0_at wsX0_at) := goodIn_app (goodIn_of _ (by decide +kernel)) ggX1_spread_X0_at
set_option maxRecDepth 20000 in
theorem ggX1_spread_X1_shareOf : GoodIn wsX1_spread wsX1_shareOf := goodIn_r _ [17, 1, 8, 9, 10, 5, 11, 7, 12, 41, 42, 43, 44, 45, 46] (by decide +kernel) (by decide +kernel)
set_option maxRecDepth 20000 in
theorem gX1_spread_X1_shareOf : GoodIn wsX1_spread (wsV RX1 77 RX1 yX1_shareOf wsX1_shareOf) := goodIn_app (goodIn_of _ (by decide +kernel)) ggX1_spread_X1_shareOf
set_option maxRecDepth 20000 in
theorem ggX1_spread_X5_near : GoodIn wsX1_spread wsX5_near := goodIn_r _ [20, 21, 22, 23, 24, 25] (by decide +kernel) (by decide +kernel)
set_option maxRecDepth 20000 in
theorem gX1_spread_X5_near_n80 : GoodIn wsX1_spread (wsX5_near) := ggX1_spread_X5_near
set_option maxRecDepth 20000 in
theorem ggX1_spread_X1_within : GoodIn wsX1_spread wsX1_within := goodIn_r _ [28, 29, 30, 31, 32, 24, 33, 34, 35, 36] (by decide +kernel) (by decide +kernel)
set_option maxRecDepth 20000 in
theorem gX1_spread_X1_within : GoodIn wsX1_spread (va_wsS RX1 83 yX1_within wsX1_within) := goodIn_app (goodIn_of _ (by decide +kernel)) ggX1_spread_X1_within
set_option maxRecDepth 20000 in
theorem ggX1_spread_X0_put : GoodIn wsX1_spread wsX0_put := goodIn_r _ [40, 7, 12, 45, 46] (by decide +kernel) (by decide +kernel)
set_option maxRecDepth 20000 in
theorem gX1_spread_X0_put : GoodIn wsX1_spread (wsV RX1 87 RX0 yX0_put wsX0_put) := goodIn_app (goodIn_of _ (by decide +kernel)) ggX1_spread_X0_put
theorem dX1_spread_0 : decode cX1_spread 0 = .ok (.lconst 0, 1) := by decide +kernel
theorem dX1_spread_1 : decode cX1_spread 1 = .ok (.lstore 6, 2) := by decide +kernel
theorem dX1_spread_3 : decode cX1_spread 3 = .ok (.iconst 0, 1) := by decide +kernel
theorem dX1_spread_4 : decode cX1_spread 4 = .ok (.istore 8, 2) := by decide +kernel
theorem dX1_spread_6 : decode cX1_spread 6 = .ok (.iload 8, 2) := by decide +kernel
theorem dX1_spread_8 : decode cX1_spread 8 = .ok (.aload_n 0, 1) := by decide +kernel
theorem dX1_spread_9 : decode cX1_spread 9 = .ok (.getfield 14, 3) := by decide +kernel
theorem dX1_spread_12 : decode cX1_spread 12 = .ok (.invokevirtual 70, 3) := by decide +kernel
theorem dX1_spread_15 : decode cX1_spread 15 = .ok (.if_icmp .ge 87, 3) := by decide +kernel
theorem dX1_spread_18 : decode cX1_spread 18 = .ok (.aload_n 0, 1) := by decide +kernel
theorem dX1_spread_19 : decode cX1_spread 19 = .ok (.getfield 14, 3) := by decide +kernel
theorem dX1_spread_22 : decode cX1_spread 22 = .ok (.iload 8, 2) := by decide +kernel
theorem dX1_spread_24 : decode cX1_spread 24 = .ok (.iconst 0, 1) := by decide +kernel
theorem dX1_spread_25 : decode cX1_spread 25 = .ok (.invokevirtual 73, 3) := by decide +kernel
theorem dX1_spread_28 : decode cX1_spread 28 = .ok (.iconst 5, 1) := by decide +kernel
theorem dX1_spread_29 : decode cX1_spread 29 = .ok (.if_icmp .ne 67, 3) := by decide +kernel
theorem dX1_spread_32 : decode cX1_spread 32 = .ok (.lload 6, 2) := by decide +kernel
theorem dX1_spread_34 : decode cX1_spread 34 = .ok (.aload_n 0, 1) := by decide +kernel
theorem dX1_spread_35 : decode cX1_spread 35 = .ok (.iload 8, 2) := by decide +kernel
theorem dX1_spread_37 : decode cX1_spread 37 = .ok (.iload 5, 2) := by decide +kernel
theorem dX1_spread_39 : decode cX1_spread 39 = .ok (.invokevirtual 77, 3) := by decide +kernel
theorem dX1_spread_42 : decode cX1_spread 42 = .ok (.i2l, 1) := by decide +kernel
theorem dX1_spread_43 : decode cX1_spread 43 = .ok (.ladd, 1) := by decide +kernel
theorem dX1_spread_44 : decode cX1_spread 44 = .ok (.lstore 9, 2) := by decide +kernel
theorem dX1_spread_46 : decode cX1_spread 46 = .ok (.lload_n 1, 1) := by decide +kernel
theorem dX1_spread_47 : decode cX1_spread 47 = .ok (.lload 9, 2) := by decide +kernel
theorem dX1_spread_49 : decode cX1_spread 49 = .ok (.lmul, 1) := by decide +kernel
theorem dX1_spread_50 : decode cX1_spread 50 = .ok (.lload_n 3, 1) := by decide +kernel
theorem dX1_spread_51 : decode cX1_spread 51 = .ok (.invokestatic 80, 3) := by decide +kernel
theorem dX1_spread_54 : decode cX1_spread 54 = .ok (.lload_n 1, 1) := by decide +kernel
theorem dX1_spread_55 : decode cX1_spread 55 = .ok (.lload 6, 2) := by decide +kernel
theorem dX1_spread_57 : decode cX1_spread 57 = .ok (.lmul, 1) := by decide +kernel
theorem dX1_spread_58 : decode cX1_spread 58 = .ok (.lload_n 3, 1) := by decide +kernel
theorem dX1_spread_59 : decode cX1_spread 59 = .ok (.invokestatic 80, 3) := by decide +kernel
theorem dX1_spread_62 : decode cX1_spread 62 = .ok (.lsub, 1) := by decide +kernel
theorem dX1_spread_63 : decode cX1_spread 63 = .ok (.lstore 11, 2) := by decide +kernel
theorem dX1_spread_65 : decode cX1_spread 65 = .ok (.aload_n 0, 1) := by decide +kernel
theorem dX1_spread_66 : decode cX1_spread 66 = .ok (.getfield 14, 3) := by decide +kernel
theorem dX1_spread_69 : decode cX1_spread 69 = .ok (.iload 8, 2) := by decide +kernel
theorem dX1_spread_71 : decode cX1_spread 71 = .ok (.iconst 1, 1) := by decide +kernel
theorem dX1_spread_72 : decode cX1_spread 72 = .ok (.aload_n 0, 1) := by decide +kernel
theorem dX1_spread_73 : decode cX1_spread 73 = .ok (.getfield 14, 3) := by decide +kernel
theorem dX1_spread_76 : decode cX1_spread 76 = .ok (.iload 8, 2) := by decide +kernel
theorem dX1_spread_78 : decode cX1_spread 78 = .ok (.iconst 1, 1) := by decide +kernel
theorem dX1_spread_79 : decode cX1_spread 79 = .ok (.invokevirtual 73, 3) := by decide +kernel
theorem dX1_spread_82 : decode cX1_spread 82 = .ok (.i2l, 1) := by decide +kernel
theorem dX1_spread_83 : decode cX1_spread 83 = .ok (.lload 11, 2) := by decide +kernel
theorem dX1_spread_85 : decode cX1_spread 85 = .ok (.ladd, 1) := by decide +kernel
theorem dX1_spread_86 : decode cX1_spread 86 = .ok (.invokestatic 83, 3) := by decide +kernel
theorem dX1_spread_89 : decode cX1_spread 89 = .ok (.invokevirtual 87, 3) := by decide +kernel
theorem dX1_spread_92 : decode cX1_spread 92 = .ok (.lload 9, 2) := by decide +kernel
theorem dX1_spread_94 : decode cX1_spread 94 = .ok (.lstore 6, 2) := by decide +kernel
theorem dX1_spread_96 : decode cX1_spread 96 = .ok (.iinc 8 1, 3) := by decide +kernel
theorem dX1_spread_99 : decode cX1_spread 99 = .ok (.goto (-93), 3) := by decide +kernel
theorem dX1_spread_102 : decode cX1_spread 102 = .ok (.return_, 1) := by decide +kernel
set_option maxRecDepth 20000 in
theorem ggX1_shareOf_X0_at : GoodIn wsX1_shareOf wsX0_at := goodIn_r _ [6, 7, 8, 13, 14] (by decide +kernel) (by decide +kernel)
set_option maxRecDepth 20000 in
theorem gX1_shareOf_X0_at : GoodIn wsX1_shareOf (wsV RX1 73 RX0 yX0_at wsX0_at) := goodIn_app (goodIn_of _ (by decide +kernel)) ggX1_shareOf_X0_at
theorem dX1_shareOf_0 : decode cX1_shareOf 0 = .ok (.iload_n 2, 1) := by decide +kernel
theorem dX1_shareOf_1 : decode cX1_shareOf 1 = .ok (.iconst (-1), 1) := by decide +kernel
theorem dX1_shareOf_2 : decode cX1_shareOf 2 = .ok (.if_icmp .ne 14, 3) := by decide +kernel
theorem dX1_shareOf_5 : decode cX1_shareOf 5 = .ok (.aload_n 0, 1) := by decide +kernel
theorem dX1_shareOf_6 : decode cX1_shareOf 6 = .ok (.getfield 14, 3) := by decide +kernel
theorem dX1_shareOf_9 : decode cX1_shareOf 9 = .ok (.iload_n 1, 1) := by decide +kernel
theorem dX1_shareOf_10 : decode cX1_shareOf 10 = .ok (.bipush 7, 2) := by decide +kernel
theorem dX1_shareOf_12 : decode cX1_shareOf 12 = .ok (.invokevirtual 73, 3) := by decide +kernel
theorem dX1_shareOf_15 : decode cX1_shareOf 15 = .ok (.ireturn, 1) := by decide +kernel
theorem dX1_shareOf_16 : decode cX1_shareOf 16 = .ok (.aload_n 0, 1) := by decide +kernel
theorem dX1_shareOf_17 : decode cX1_shareOf 17 = .ok (.getfield 14, 3) := by decide +kernel
theorem dX1_shareOf_20 : decode cX1_shareOf 20 = .ok (.iload_n 1, 1) := by decide +kernel
theorem dX1_shareOf_21 : decode cX1_shareOf 21 = .ok (.bipush 6, 2) := by decide +kernel
theorem dX1_shareOf_23 : decode cX1_shareOf 23 = .ok (.invokevirtual 73, 3) := by decide +kernel
theorem dX1_shareOf_26 : decode cX1_shareOf 26 = .ok (.iload_n 2, 1) := by decide +kernel
theorem dX1_shareOf_27 : decode cX1_shareOf 27 = .ok (.if_icmp .ne 15, 3) := by decide +kernel
theorem dX1_shareOf_30 : decode cX1_shareOf 30 = .ok (.aload_n 0, 1) := by decide +kernel
theorem dX1_shareOf_31 : decode cX1_shareOf 31 = .ok (.getfield 14, 3) := by decide +kernel
theorem dX1_shareOf_34 : decode cX1_shareOf 34 = .ok (.iload_n 1, 1) := by decide +kernel
theorem dX1_shareOf_35 : decode cX1_shareOf 35 = .ok (.iconst 5, 1) := by decide +kernel
theorem dX1_shareOf_36 : decode cX1_shareOf 36 = .ok (.invokevirtual 73, 3) := by decide +kernel
theorem dX1_shareOf_39 : decode cX1_shareOf 39 = .ok (.goto 4, 3) := by decide +kernel
theorem dX1_shareOf_42 : decode cX1_shareOf 42 = .ok (.iconst 0, 1) := by decide +kernel
theorem dX1_shareOf_43 : decode cX1_shareOf 43 = .ok (.ireturn, 1) := by decide +kernel
theorem dX1_within_0 : decode cX1_within 0 = .ok (.ldc2_w 91, 3) := by decide +kernel
theorem dX1_within_3 : decode cX1_within 3 = .ok (.ldc2_w 93, 3) := by decide +kernel
theorem dX1_within_6 : decode cX1_within 6 = .ok (.lload_n 0, 1) := by decide +kernel
theorem dX1_within_7 : decode cX1_within 7 = .ok (.invokestatic 95, 3) := by decide +kernel
theorem dX1_within_10 : decode cX1_within 10 = .ok (.invokestatic 64, 3) := by decide +kernel
theorem dX1_within_13 : decode cX1_within 13 = .ok (.l2i, 1) := by decide +kernel
theorem dX1_within_14 : decode cX1_within 14 = .ok (.ireturn, 1) := by decide +kernel
set_option maxRecDepth 20000 in
theorem ggX2_init_X4_init : GoodIn wsX2_init wsX4_init := goodIn_r _ [10, 11, 2, 3, 12, 13, 14, 15, 16, 17, 18, 19] (by decide +kernel) (by decide +kernel)
set_option maxRecDepth 20000 in
theorem gX2_init_X4_init_n11 : GoodIn wsX2_init (wsX4_init) := ggX2_init_X4_init
theorem dX2_init_0 : decode cX2_init 0 = .ok (.aload_n 0, 1) := by decide +kernel
theorem dX2_init_1 : decode cX2_init 1 = .ok (.invokespecial 3, 3) := by decide +kernel
theorem dX2_init_4 : decode cX2_init 4 = .ok (.aload_n 0, 1) := by decide +kernel
theorem dX2_init_5 : decode cX2_init 5 = .ok (.new 9, 3) := by decide +kernel
theorem dX2_init_8 : decode cX2_init 8 = .ok (.dup, 1) := by decide +kernel
theorem dX2_init_9 : decode cX2_init 9 = .ok (.invokespecial 11, 3) := by decide +kernel
theorem dX2_init_12 : decode cX2_init 12 = .ok (.putfield 12, 3) := by decide +kernel
theorem dX2_init_15 : decode cX2_init 15 = .ok (.aload_n 0, 1) := by decide +kernel
theorem dX2_init_16 : decode cX2_init 16 = .ok (.iconst (-1), 1) := by decide +kernel
theorem dX2_init_17 : decode cX2_init 17 = .ok (.putfield 18, 3) := by decide +kernel
theorem dX2_init_20 : decode cX2_init 20 = .ok (.return_, 1) := by decide +kernel
set_option maxRecDepth 20000 in
theorem ggX2_begin_X4_clear : GoodIn wsX2_begin wsX4_clear := goodIn_r _ [9, 10, 11, 12, 13, 14, 15, 16, 17, 18, 19, 26, 27, 28, 29, 30, 31] (by decide +kernel) (by decide +kernel)
set_option maxRecDepth 20000 in
theorem gX2_begin_X4_clear : GoodIn wsX2_begin (wsV RX2 32 RX4 yX4_clear wsX4_clear) := goodIn_app (goodIn_of _ (by decide +kernel)) ggX2_begin_X4_clear
theorem dX2_begin_0 : decode cX2_begin 0 = .ok (.aload_n 0, 1) := by decide +kernel
theorem dX2_begin_1 : decode cX2_begin 1 = .ok (.iconst 1, 1) := by decide +kernel
theorem dX2_begin_2 : decode cX2_begin 2 = .ok (.putfield 22, 3) := by decide +kernel
theorem dX2_begin_5 : decode cX2_begin 5 = .ok (.aload_n 0, 1) := by decide +kernel
theorem dX2_begin_6 : decode cX2_begin 6 = .ok (.iload_n 1, 1) := by decide +kernel
theorem dX2_begin_7 : decode cX2_begin 7 = .ok (.putfield 26, 3) := by decide +kernel
theorem dX2_begin_10 : decode cX2_begin 10 = .ok (.aload_n 0, 1) := by decide +kernel
theorem dX2_begin_11 : decode cX2_begin 11 = .ok (.iload_n 2, 1) := by decide +kernel
theorem dX2_begin_12 : decode cX2_begin 12 = .ok (.putfield 29, 3) := by decide +kernel
theorem dX2_begin_15 : decode cX2_begin 15 = .ok (.aload_n 0, 1) := by decide +kernel
theorem dX2_begin_16 : decode cX2_begin 16 = .ok (.getfield 12, 3) := by decide +kernel
theorem dX2_begin_19 : decode cX2_begin 19 = .ok (.iload_n 3, 1) := by decide +kernel
theorem dX2_begin_20 : decode cX2_begin 20 = .ok (.invokevirtual 32, 3) := by decide +kernel
theorem dX2_begin_23 : decode cX2_begin 23 = .ok (.return_, 1) := by decide +kernel
theorem dX2_forget_0 : decode cX2_forget 0 = .ok (.aload_n 0, 1) := by decide +kernel
theorem dX2_forget_1 : decode cX2_forget 1 = .ok (.iconst 0, 1) := by decide +kernel
theorem dX2_forget_2 : decode cX2_forget 2 = .ok (.putfield 22, 3) := by decide +kernel
theorem dX2_forget_5 : decode cX2_forget 5 = .ok (.aload_n 0, 1) := by decide +kernel
theorem dX2_forget_6 : decode cX2_forget 6 = .ok (.iconst 0, 1) := by decide +kernel
theorem dX2_forget_7 : decode cX2_forget 7 = .ok (.putfield 26, 3) := by decide +kernel
theorem dX2_forget_10 : decode cX2_forget 10 = .ok (.aload_n 0, 1) := by decide +kernel
theorem dX2_forget_11 : decode cX2_forget 11 = .ok (.iconst (-1), 1) := by decide +kernel
theorem dX2_forget_12 : decode cX2_forget 12 = .ok (.putfield 18, 3) := by decide +kernel
theorem dX2_forget_15 : decode cX2_forget 15 = .ok (.aload_n 0, 1) := by decide +kernel
theorem dX2_forget_16 : decode cX2_forget 16 = .ok (.lconst 0, 1) := by decide +kernel
theorem dX2_forget_17 : decode cX2_forget 17 = .ok (.putfield 36, 3) := by decide +kernel
theorem dX2_forget_20 : decode cX2_forget 20 = .ok (.return_, 1) := by decide +kernel
theorem dX2_hasBest_0 : decode cX2_hasBest 0 = .ok (.aload_n 0, 1) := by decide +kernel
theorem dX2_hasBest_1 : decode cX2_hasBest 1 = .ok (.getfield 18, 3) := by decide +kernel
theorem dX2_hasBest_4 : decode cX2_hasBest 4 = .ok (.iconst (-1), 1) := by decide +kernel
theorem dX2_hasBest_5 : decode cX2_hasBest 5 = .ok (.if_icmp .eq 7, 3) := by decide +kernel
theorem dX2_hasBest_8 : decode cX2_hasBest 8 = .ok (.iconst 1, 1) := by decide +kernel
theorem dX2_hasBest_9 : decode cX2_hasBest 9 = .ok (.goto 4, 3) := by decide +kernel
theorem dX2_hasBest_12 : decode cX2_hasBest 12 = .ok (.iconst 0, 1) := by decide +kernel
theorem dX2_hasBest_13 : decode cX2_hasBest 13 = .ok (.ireturn, 1) := by decide +kernel
set_option maxRecDepth 20000 in
theorem ggX2_weigh_X2_badnessNow : GoodIn wsX2_weigh wsX2_badnessNow := goodIn_r _ [8, 9, 10, 1, 11, 12, 13, 14, 15, 16, 17, 18, 19, 20, 21, 22, 23, 24, 25, 26, 27, 28, 29, 30, 31, 32, 33, 34, 44, 45, 46, 47, 48, 49, 50, 51, 52, 53, 54, 55] (by decide +kernel) (by decide +kernel)
set_option maxRecDepth 20000 in
theorem gX2_weigh_X2_badnessNow : GoodIn wsX2_weigh (wsV RX2 40 RX2 yX2_badnessNow wsX2_badnessNow) := goodIn_app (goodIn_of _ (by decide +kernel)) ggX2_weigh_X2_badnessNow
set_option maxRecDepth 20000 in
theorem ggX2_weigh_X2_costOf : GoodIn wsX2_weigh wsX2_costOf := goodIn_r _ [37, 38, 39] (by decide +kernel) (by decide +kernel)
set_option maxRecDepth 20000 in
theorem gX2_weigh_X2_costOf : GoodIn wsX2_weigh (va_wsS RX2 46 yX2_costOf wsX2_costOf) := goodIn_app (goodIn_of _ (by decide +kernel)) ggX2_weigh_X2_costOf
set_option maxRecDepth 20000 in
theorem ggX2_weigh_X2_hasBest : GoodIn wsX2_weigh wsX2_hasBest := goodIn_r _ [43, 3, 44, 45, 46, 47, 48, 49] (by decide +kernel) (by decide +kernel)
set_option maxRecDepth 20000 in
theorem gX2_weigh_X2_hasBest : GoodIn wsX2_weigh (wsV RX2 50 RX2 yX2_hasBest wsX2_hasBest) := goodIn_app (goodIn_of _ (by decide +kernel)) ggX2_weigh_X2_hasBest
theorem dX2_weigh_0 : decode cX2_weigh 0 = .ok (.aload_n 0, 1) := by decide +kernel
theorem dX2_weigh_1 : decode cX2_weigh 1 = .ok (.invokevirtual 40, 3) := by decide +kernel
theorem dX2_weigh_4 : decode cX2_weigh 4 = .ok (.lstore_n 3, 1) := by decide +kernel
theorem dX2_weigh_5 : decode cX2_weigh 5 = .ok (.lload_n 3, 1) := by decide +kernel
theorem dX2_weigh_6 : decode cX2_weigh 6 = .ok (.ldc2_w 44, 3) := by decide +kernel
theorem dX2_weigh_9 : decode cX2_weigh 9 = .ok (.lcmp, 1) := by decide +kernel
theorem dX2_weigh_10 : decode cX2_weigh 10 = .ok (.ifCond .eq 7, 3) := by decide +kernel
theorem dX2_weigh_13 : decode cX2_weigh 13 = .ok (.iconst 1, 1) := by decide +kernel
theorem dX2_weigh_14 : decode cX2_weigh 14 = .ok (.goto 4, 3) := by decide +kernel
theorem dX2_weigh_17 : decode cX2_weigh 17 = .ok (.iconst 0, 1) := by decide +kernel
theorem dX2_weigh_18 : decode cX2_weigh 18 = .ok (.istore 5, 2) := by decide +kernel
theorem dX2_weigh_20 : decode cX2_weigh 20 = .ok (.lload_n 3, 1) := by decide +kernel
theorem dX2_weigh_21 : decode cX2_weigh 21 = .ok (.iload_n 1, 1) := by decide +kernel
theorem dX2_weigh_22 : decode cX2_weigh 22 = .ok (.invokestatic 46, 3) := by decide +kernel
theorem dX2_weigh_25 : decode cX2_weigh 25 = .ok (.lstore 6, 2) := by decide +kernel
theorem dX2_weigh_27 : decode cX2_weigh 27 = .ok (.iload 5, 2) := by decide +kernel
theorem dX2_weigh_29 : decode cX2_weigh 29 = .ok (.ifCond .eq 31, 3) := by decide +kernel
theorem dX2_weigh_32 : decode cX2_weigh 32 = .ok (.aload_n 0, 1) := by decide +kernel
theorem dX2_weigh_33 : decode cX2_weigh 33 = .ok (.invokevirtual 50, 3) := by decide +kernel
theorem dX2_weigh_36 : decode cX2_weigh 36 = .ok (.ifCond .eq 13, 3) := by decide +kernel
theorem dX2_weigh_39 : decode cX2_weigh 39 = .ok (.lload 6, 2) := by decide +kernel
theorem dX2_weigh_41 : decode cX2_weigh 41 = .ok (.aload_n 0, 1) := by decide +kernel
theorem dX2_weigh_42 : decode cX2_weigh 42 = .ok (.getfield 36, 3) := by decide +kernel
theorem dX2_weigh_45 : decode cX2_weigh 45 = .ok (.lcmp, 1) := by decide +kernel
theorem dX2_weigh_46 : decode cX2_weigh 46 = .ok (.ifCond .gt 14, 3) := by decide +kernel
theorem dX2_weigh_49 : decode cX2_weigh 49 = .ok (.aload_n 0, 1) := by decide +kernel
theorem dX2_weigh_50 : decode cX2_weigh 50 = .ok (.iload_n 2, 1) := by decide +kernel
theorem dX2_weigh_51 : decode cX2_weigh 51 = .ok (.putfield 18, 3) := by decide +kernel
theorem dX2_weigh_54 : decode cX2_weigh 54 = .ok (.aload_n 0, 1) := by decide +kernel
theorem dX2_weigh_55 : decode cX2_weigh 55 = .ok (.lload 6, 2) := by decide +kernel
theorem dX2_weigh_57 : decode cX2_weigh 57 = .ok (.putfield 36, 3) := by decide +kernel
theorem dX2_weigh_60 : decode cX2_weigh 60 = .ok (.iload 5, 2) := by decide +kernel
theorem dX2_weigh_62 : decode cX2_weigh 62 = .ok (.ifCond .eq 10, 3) := by decide +kernel
theorem dX2_weigh_65 : decode cX2_weigh 65 = .ok (.iload_n 1, 1) := by decide +kernel
theorem dX2_weigh_66 : decode cX2_weigh 66 = .ok (.sipush (-10000), 3) := by decide +kernel
theorem dX2_weigh_69 : decode cX2_weigh 69 = .ok (.if_icmp .gt 7, 3) := by decide +kernel
theorem dX2_weigh_72 : decode cX2_weigh 72 = .ok (.iconst 1, 1) := by decide +kernel
theorem dX2_weigh_73 : decode cX2_weigh 73 = .ok (.goto 4, 3) := by decide +kernel
theorem dX2_weigh_76 : decode cX2_weigh 76 = .ok (.iconst 0, 1) := by decide +kernel
theorem dX2_weigh_77 : decode cX2_weigh 77 = .ok (.ireturn, 1) := by decide +kernel
set_option maxRecDepth 20000 in
theorem ggX2_badnessNow_X4_total : GoodIn wsX2_badnessNow wsX4_total := goodIn_r _ [8, 9, 10, 34, 35, 36, 37, 38, 39] (by decide +kernel) (by decide +kernel)
set_option maxRecDepth 20000 in
theorem gX2_badnessNow_X4_total : GoodIn wsX2_badnessNow (wsV RX2 54 RX4 yX4_total wsX4_total) := goodIn_app (goodIn_of _ (by decide +kernel)) ggX2_badnessNow_X4_total
set_option maxRecDepth 20000 in
theorem ggX2_badnessNow_X5_badness : GoodIn wsX2_badnessNow wsX5_badness := goodIn_r _ [13, 14, 15, 16, 17, 18] (by decide +kernel) (by decide +kernel)
set_option maxRecDepth 20000 in
theorem gX2_badnessNow_X5_badness_n60 : GoodIn wsX2_badnessNow (wsX5_badness) := ggX2_badnessNow_X5_badness
set_option maxRecDepth 20000 in
theorem ggX2_badnessNow_X4_highestOrder : GoodIn wsX2_badnessNow wsX4_highestOrder := goodIn_r _ [22, 23, 34, 35, 36, 37, 38, 39] (by decide +kernel) (by decide +kernel)
set_option maxRecDepth 20000 in
theorem gX2_badnessNow_X4_highestOrder : GoodIn wsX2_badnessNow (wsV RX2 64 RX4 yX4_highestOrder wsX4_highestOrder) := goodIn_app (goodIn_of _ (by decide +kernel)) ggX2_badnessNow_X4_highestOrder
set_option maxRecDepth 20000 in
theorem ggX2_badnessNow_X4_stretchOf : GoodIn wsX2_badnessNow wsX4_stretchOf := goodIn_r _ [27, 23, 34, 35, 36, 37, 38, 39] (by decide +kernel) (by decide +kernel)
set_option maxRecDepth 20000 in
theorem gX2_badnessNow_X4_stretchOf : GoodIn wsX2_badnessNow (wsV RX2 68 RX4 yX4_stretchOf wsX4_stretchOf) := goodIn_app (goodIn_of _ (by decide +kernel)) ggX2_badnessNow_X4_stretchOf
theorem dX2_badnessNow_0 : decode cX2_badnessNow 0 = .ok (.aload_n 0, 1) := by decide +kernel
theorem dX2_badnessNow_1 : decode cX2_badnessNow 1 = .ok (.getfield 29, 3) := by decide +kernel
theorem dX2_badnessNow_4 : decode cX2_badnessNow 4 = .ok (.i2l, 1) := by decide +kernel
theorem dX2_badnessNow_5 : decode cX2_badnessNow 5 = .ok (.aload_n 0, 1) := by decide +kernel
theorem dX2_badnessNow_6 : decode cX2_badnessNow 6 = .ok (.getfield 12, 3) := by decide +kernel
theorem dX2_badnessNow_9 : decode cX2_badnessNow 9 = .ok (.invokevirtual 54, 3) := by decide +kernel
theorem dX2_badnessNow_12 : decode cX2_badnessNow 12 = .ok (.lsub, 1) := by decide +kernel
theorem dX2_badnessNow_13 : decode cX2_badnessNow 13 = .ok (.lstore_n 1, 1) := by decide +kernel
theorem dX2_badnessNow_14 : decode cX2_badnessNow 14 = .ok (.lload_n 1, 1) := by decide +kernel
theorem dX2_badnessNow_15 : decode cX2_badnessNow 15 = .ok (.lconst 0, 1) := by decide +kernel
theorem dX2_badnessNow_16 : decode cX2_badnessNow 16 = .ok (.lcmp, 1) := by decide +kernel
theorem dX2_badnessNow_17 : decode cX2_badnessNow 17 = .ok (.ifCond .ge 35, 3) := by decide +kernel
theorem dX2_badnessNow_20 : decode cX2_badnessNow 20 = .ok (.lload_n 1, 1) := by decide +kernel
theorem dX2_badnessNow_21 : decode cX2_badnessNow 21 = .ok (.lneg, 1) := by decide +kernel
theorem dX2_badnessNow_22 : decode cX2_badnessNow 22 = .ok (.aload_n 0, 1) := by decide +kernel
theorem dX2_badnessNow_23 : decode cX2_badnessNow 23 = .ok (.getfield 12, 3) := by decide +kernel
theorem dX2_badnessNow_26 : decode cX2_badnessNow 26 = .ok (.getfield 57, 3) := by decide +kernel
theorem dX2_badnessNow_29 : decode cX2_badnessNow 29 = .ok (.lcmp, 1) := by decide +kernel
theorem dX2_badnessNow_30 : decode cX2_badnessNow 30 = .ok (.ifCond .gt 18, 3) := by decide +kernel
theorem dX2_badnessNow_33 : decode cX2_badnessNow 33 = .ok (.lload_n 1, 1) := by decide +kernel
theorem dX2_badnessNow_34 : decode cX2_badnessNow 34 = .ok (.lneg, 1) := by decide +kernel
theorem dX2_badnessNow_35 : decode cX2_badnessNow 35 = .ok (.aload_n 0, 1) := by decide +kernel
theorem dX2_badnessNow_36 : decode cX2_badnessNow 36 = .ok (.getfield 12, 3) := by decide +kernel
theorem dX2_badnessNow_39 : decode cX2_badnessNow 39 = .ok (.getfield 57, 3) := by decide +kernel
theorem dX2_badnessNow_42 : decode cX2_badnessNow 42 = .ok (.invokestatic 60, 3) := by decide +kernel
theorem dX2_badnessNow_45 : decode cX2_badnessNow 45 = .ok (.goto 6, 3) := by decide +kernel
theorem dX2_badnessNow_48 : decode cX2_badnessNow 48 = .ok (.ldc2_w 44, 3) := by decide +kernel
theorem dX2_badnessNow_51 : decode cX2_badnessNow 51 = .ok (.lreturn, 1) := by decide +kernel
theorem dX2_badnessNow_52 : decode cX2_badnessNow 52 = .ok (.aload_n 0, 1) := by decide +kernel
theorem dX2_badnessNow_53 : decode cX2_badnessNow 53 = .ok (.getfield 12, 3) := by decide +kernel
theorem dX2_badnessNow_56 : decode cX2_badnessNow 56 = .ok (.invokevirtual 64, 3) := by decide +kernel
theorem dX2_badnessNow_59 : decode cX2_badnessNow 59 = .ok (.ifCond .le 7, 3) := by decide +kernel
theorem dX2_badnessNow_62 : decode cX2_badnessNow 62 = .ok (.lconst 0, 1) := by decide +kernel
theorem dX2_badnessNow_63 : decode cX2_badnessNow 63 = .ok (.goto 15, 3) := by decide +kernel
theorem dX2_badnessNow_66 : decode cX2_badnessNow 66 = .ok (.lload_n 1, 1) := by decide +kernel
theorem dX2_badnessNow_67 : decode cX2_badnessNow 67 = .ok (.aload_n 0, 1) := by decide +kernel
theorem dX2_badnessNow_68 : decode cX2_badnessNow 68 = .ok (.getfield 12, 3) := by decide +kernel
theorem dX2_badnessNow_71 : decode cX2_badnessNow 71 = .ok (.iconst 0, 1) := by decide +kernel
theorem dX2_badnessNow_72 : decode cX2_badnessNow 72 = .ok (.invokevirtual 68, 3) := by decide +kernel
theorem dX2_badnessNow_75 : decode cX2_badnessNow 75 = .ok (.invokestatic 60, 3) := by decide +kernel
theorem dX2_badnessNow_78 : decode cX2_badnessNow 78 = .ok (.lreturn, 1) := by decide +kernel
theorem dX2_costOf_0 : decode cX2_costOf 0 = .ok (.iload_n 2, 1) := by decide +kernel
theorem dX2_costOf_1 : decode cX2_costOf 1 = .ok (.sipush (-10000), 3) := by decide +kernel
theorem dX2_costOf_4 : decode cX2_costOf 4 = .ok (.if_icmp .gt 6, 3) := by decide +kernel
theorem dX2_costOf_7 : decode cX2_costOf 7 = .ok (.iload_n 2, 1) := by decide +kernel
theorem dX2_costOf_8 : decode cX2_costOf 8 = .ok (.i2l, 1) := by decide +kernel
theorem dX2_costOf_9 : decode cX2_costOf 9 = .ok (.lreturn, 1) := by decide +kernel
theorem dX2_costOf_10 : decode cX2_costOf 10 = .ok (.lload_n 0, 1) := by decide +kernel
theorem dX2_costOf_11 : decode cX2_costOf 11 = .ok (.ldc2_w 72, 3) := by decide +kernel
theorem dX2_costOf_14 : decode cX2_costOf 14 = .ok (.lcmp, 1) := by decide +kernel
theorem dX2_costOf_15 : decode cX2_costOf 15 = .ok (.ifCond .ge 10, 3) := by decide +kernel
theorem dX2_costOf_18 : decode cX2_costOf 18 = .ok (.lload_n 0, 1) := by decide +kernel
theorem dX2_costOf_19 : decode cX2_costOf 19 = .ok (.iload_n 2, 1) := by decide +kernel
theorem dX2_costOf_20 : decode cX2_costOf 20 = .ok (.i2l, 1) := by decide +kernel
theorem dX2_costOf_21 : decode cX2_costOf 21 = .ok (.ladd, 1) := by decide +kernel
theorem dX2_costOf_22 : decode cX2_costOf 22 = .ok (.goto 6, 3) := by decide +kernel
theorem dX2_costOf_25 : decode cX2_costOf 25 = .ok (.ldc2_w 74, 3) := by decide +kernel
theorem dX2_costOf_28 : decode cX2_costOf 28 = .ok (.lreturn, 1) := by decide +kernel
theorem dX3_init_0 : decode cX3_init 0 = .ok (.aload_n 0, 1) := by decide +kernel
theorem dX3_init_1 : decode cX3_init 1 = .ok (.invokespecial 3, 3) := by decide +kernel
theorem dX3_init_4 : decode cX3_init 4 = .ok (.aload_n 0, 1) := by decide +kernel
theorem dX3_init_5 : decode cX3_init 5 = .ok (.bipush 8, 2) := by decide +kernel
theorem dX3_init_7 : decode cX3_init 7 = .ok (.anewarray 9, 3) := by decide +kernel
theorem dX3_init_10 : decode cX3_init 10 = .ok (.putfield 11, 3) := by decide +kernel
theorem dX3_init_13 : decode cX3_init 13 = .ok (.return_, 1) := by decide +kernel
set_option maxRecDepth 20000 in
theorem ggX3_put_J9_floorMod_7cf53 : GoodIn wsX3_put wsJ9_floorMod_7cf53 := goodIn_r _ [15] (by decide +kernel) (by decide +kernel)
set_option maxRecDepth 20000 in
theorem gX3_put_J9_floorMod_7cf53 : GoodIn wsX3_put (va_wsS RX3 21 yJ9_floorMod_7cf53 wsJ9_floorMod_7cf53) := goodIn_app (goodIn_of _ (by decide +kernel)) ggX3_put_J9_floorMod_7cf53
set_option maxRecDepth 20000 in
theorem ggX3_put_X1_init : GoodIn wsX3_put wsX1_init := goodIn_r _ [17, 18, 19, 20, 21, 22, 23, 24, 25, 26, 27, 28, 29, 30, 133, 134, 129, 130, 131, 132] (by decide +kernel) (by decide +kernel)
set_option maxRecDepth 20000 in
theorem gX3_put_X1_init_n36 : GoodIn wsX3_put (wsX1_init) := ggX3_put_X1_init
set_option maxRecDepth 20000 in
theorem ggX3_put_X1_make : GoodIn wsX3_put wsX1_make := goodIn_r _ [34, 24, 35, 36, 37, 38, 39, 40, 23, 41, 42, 30, 43, 44, 45, 46, 47, 48, 49, 50, 51, 52, 5, 53, 54, 4, 6, 55, 56, 57, 58, 59, 60, 61, 62, 63, 64, 29, 65, 66, 67, 68, 69, 70, 71, 72, 73, 74, 75, 76, 11, 77, 78, 79, 80, 81, 82, 83, 84, 85, 86, 87, 88, 89, 90, 91, 92, 93, 94, 95, 96, 97, 98, 99, 100, 101, 102, 103, 104, 105, 106, 107, 108, 109, 110, 111, 112, 113, 114, 115, 116, 117, 118, 119, 120, 121, 122, 123, 124, 129, 130, 131, 132, 135, 136, 137, 138, 139, 140, 133, 134] (by decide +kernel) (by decide +kernel)
set_option maxRecDepth 20000 in
theorem gX3_put_X1_make : GoodIn wsX3_put (wsV RX3 37 RX1 yX1_make wsX1_make) := goodIn_app (goodIn_of _ (by decide +kernel)) ggX3_put_X1_make
theorem dX3_put_0 : decode cX3_put 0 = .ok (.aload_n 0, 1) := by decide +kernel
theorem dX3_put_1 : decode cX3_put 1 = .ok (.aload_n 0, 1) := by decide +kernel
theorem dX3_put_2 : decode cX3_put 2 = .ok (.getfield 17, 3) := by decide +kernel
theorem dX3_put_5 : decode cX3_put 5 = .ok (.iconst 1, 1) := by decide +kernel
theorem dX3_put_6 : decode cX3_put 6 = .ok (.iadd, 1) := by decide +kernel
theorem dX3_put_7 : decode cX3_put 7 = .ok (.bipush 8, 2) := by decide +kernel
theorem dX3_put_9 : decode cX3_put 9 = .ok (.invokestatic 21, 3) := by decide +kernel
theorem dX3_put_12 : decode cX3_put 12 = .ok (.putfield 17, 3) := by decide +kernel
theorem dX3_put_15 : decode cX3_put 15 = .ok (.aload_n 0, 1) := by decide +kernel
theorem dX3_put_16 : decode cX3_put 16 = .ok (.bipush 8, 2) := by decide +kernel
theorem dX3_put_18 : decode cX3_put 18 = .ok (.aload_n 0, 1) := by decide +kernel
theorem dX3_put_19 : decode cX3_put 19 = .ok (.getfield 27, 3) := by decide +kernel
theorem dX3_put_22 : decode cX3_put 22 = .ok (.iconst 1, 1) := by decide +kernel
theorem dX3_put_23 : decode cX3_put 23 = .ok (.iadd, 1) := by decide +kernel
theorem dX3_put_24 : decode cX3_put 24 = .ok (.invokestatic 30, 3) := by decide +kernel
theorem dX3_put_27 : decode cX3_put 27 = .ok (.putfield 27, 3) := by decide +kernel
theorem dX3_put_30 : decode cX3_put 30 = .ok (.aload_n 0, 1) := by decide +kernel
theorem dX3_put_31 : decode cX3_put 31 = .ok (.dup, 1) := by decide +kernel
theorem dX3_put_32 : decode cX3_put 32 = .ok (.getfield 33, 3) := by decide +kernel
theorem dX3_put_35 : decode cX3_put 35 = .ok (.iconst 1, 1) := by decide +kernel
theorem dX3_put_36 : decode cX3_put 36 = .ok (.iadd, 1) := by decide +kernel
theorem dX3_put_37 : decode cX3_put 37 = .ok (.putfield 33, 3) := by decide +kernel
theorem dX3_put_40 : decode cX3_put 40 = .ok (.aload_n 0, 1) := by decide +kernel
theorem dX3_put_41 : decode cX3_put 41 = .ok (.getfield 11, 3) := by decide +kernel
theorem dX3_put_44 : decode cX3_put 44 = .ok (.aload_n 0, 1) := by decide +kernel
theorem dX3_put_45 : decode cX3_put 45 = .ok (.getfield 17, 3) := by decide +kernel
theorem dX3_put_48 : decode cX3_put 48 = .ok (.aaload, 1) := by decide +kernel
theorem dX3_put_49 : decode cX3_put 49 = .ok (.astore 6, 2) := by decide +kernel
theorem dX3_put_51 : decode cX3_put 51 = .ok (.aload 6, 2) := by decide +kernel
theorem dX3_put_53 : decode cX3_put 53 = .ok (.ifnonnull 23, 3) := by decide +kernel
theorem dX3_put_56 : decode cX3_put 56 = .ok (.new 9, 3) := by decide +kernel
theorem dX3_put_59 : decode cX3_put 59 = .ok (.dup, 1) := by decide +kernel
theorem dX3_put_60 : decode cX3_put 60 = .ok (.invokespecial 36, 3) := by decide +kernel
theorem dX3_put_63 : decode cX3_put 63 = .ok (.astore 6, 2) := by decide +kernel
theorem dX3_put_65 : decode cX3_put 65 = .ok (.aload_n 0, 1) := by decide +kernel
theorem dX3_put_66 : decode cX3_put 66 = .ok (.getfield 11, 3) := by decide +kernel
theorem dX3_put_69 : decode cX3_put 69 = .ok (.aload_n 0, 1) := by decide +kernel
theorem dX3_put_70 : decode cX3_put 70 = .ok (.getfield 17, 3) := by decide +kernel
theorem dX3_put_73 : decode cX3_put 73 = .ok (.aload 6, 2) := by decide +kernel
theorem dX3_put_75 : decode cX3_put 75 = .ok (.aastore, 1) := by decide +kernel
theorem dX3_put_76 : decode cX3_put 76 = .ok (.aload 6, 2) := by decide +kernel
theorem dX3_put_78 : decode cX3_put 78 = .ok (.aload_n 1, 1) := by decide +kernel
theorem dX3_put_79 : decode cX3_put 79 = .ok (.iload_n 2, 1) := by decide +kernel
theorem dX3_put_80 : decode cX3_put 80 = .ok (.iload_n 3, 1) := by decide +kernel
theorem dX3_put_81 : decode cX3_put 81 = .ok (.iload 4, 2) := by decide +kernel
theorem dX3_put_83 : decode cX3_put 83 = .ok (.aload 5, 2) := by decide +kernel
theorem dX3_put_85 : decode cX3_put 85 = .ok (.invokevirtual 37, 3) := by decide +kernel
theorem dX3_put_88 : decode cX3_put 88 = .ok (.return_, 1) := by decide +kernel
set_option maxRecDepth 20000 in
theorem ggX3_madePage_J9_floorMod_7cf53 : GoodIn wsX3_madePage wsJ9_floorMod_7cf53 := goodIn_r _ [7] (by decide +kernel) (by decide +kernel)
set_option maxRecDepth 20000 in
theorem gX3_madePage_J9_floorMod_7cf53 : GoodIn wsX3_madePage (va_wsS RX3 21 yJ9_floorMod_7cf53 wsJ9_floorMod_7cf53) := goodIn_app (goodIn_of _ (by decide +kernel)) ggX3_madePage_J9_floorMod_7cf53
theorem dX3_madePage_0 : decode cX3_madePage 0 = .ok (.iload_n 1, 1) := by decide +kernel
theorem dX3_madePage_1 : decode cX3_madePage 1 = .ok (.ifCond .lt 30, 3) := by decide +kernel
theorem dX3_madePage_4 : decode cX3_madePage 4 = .ok (.iload_n 1, 1) := by decide +kernel
theorem dX3_madePage_5 : decode cX3_madePage 5 = .ok (.aload_n 0, 1) := by decide +kernel
theorem dX3_madePage_6 : decode cX3_madePage 6 = .ok (.getfield 27, 3) := by decide +kernel
theorem dX3_madePage_9 : decode cX3_madePage 9 = .ok (.if_icmp .ge 22, 3) := by decide +kernel
theorem dX3_madePage_12 : decode cX3_madePage 12 = .ok (.aload_n 0, 1) := by decide +kernel
theorem dX3_madePage_13 : decode cX3_madePage 13 = .ok (.getfield 11, 3) := by decide +kernel
theorem dX3_madePage_16 : decode cX3_madePage 16 = .ok (.aload_n 0, 1) := by decide +kernel
theorem dX3_madePage_17 : decode cX3_madePage 17 = .ok (.getfield 17, 3) := by decide +kernel
theorem dX3_madePage_20 : decode cX3_madePage 20 = .ok (.iload_n 1, 1) := by decide +kernel
theorem dX3_madePage_21 : decode cX3_madePage 21 = .ok (.isub, 1) := by decide +kernel
theorem dX3_madePage_22 : decode cX3_madePage 22 = .ok (.bipush 8, 2) := by decide +kernel
theorem dX3_madePage_24 : decode cX3_madePage 24 = .ok (.invokestatic 21, 3) := by decide +kernel
theorem dX3_madePage_27 : decode cX3_madePage 27 = .ok (.aaload, 1) := by decide +kernel
theorem dX3_madePage_28 : decode cX3_madePage 28 = .ok (.goto 4, 3) := by decide +kernel
theorem dX3_madePage_31 : decode cX3_madePage 31 = .ok (.aconst_null, 1) := by decide +kernel
theorem dX3_madePage_32 : decode cX3_madePage 32 = .ok (.areturn, 1) := by decide +kernel
set_option maxRecDepth 20000 in
theorem ggX3_held_X3_madePage : GoodIn wsX3_held wsX3_madePage := goodIn_r _ [6, 1, 7, 8, 9, 10, 11, 12, 19, 20, 21, 22] (by decide +kernel) (by decide +kernel)
set_option maxRecDepth 20000 in
theorem gX3_held_X3_madePage : GoodIn wsX3_held (wsV RX3 41 RX3 yX3_madePage wsX3_madePage) := goodIn_app (goodIn_of _ (by decide +kernel)) ggX3_held_X3_madePage
set_option maxRecDepth 20000 in
theorem ggX3_held_X0_size : GoodIn wsX3_held wsX0_size := goodIn_r _ [17, 18, 27, 28] (by decide +kernel) (by decide +kernel)
set_option maxRecDepth 20000 in
theorem gX3_held_X0_size : GoodIn wsX3_held (wsV RX3 49 RX0 yX0_size wsX0_size) := goodIn_app (goodIn_of _ (by decide +kernel)) ggX3_held_X0_size
theorem dX3_held_0 : decode cX3_held 0 = .ok (.aload_n 0, 1) := by decide +kernel
theorem dX3_held_1 : decode cX3_held 1 = .ok (.getfield 27, 3) := by decide +kernel
theorem dX3_held_4 : decode cX3_held 4 = .ok (.istore_n 1, 1) := by decide +kernel
theorem dX3_held_5 : decode cX3_held 5 = .ok (.iconst 0, 1) := by decide +kernel
theorem dX3_held_6 : decode cX3_held 6 = .ok (.istore_n 2, 1) := by decide +kernel
theorem dX3_held_7 : decode cX3_held 7 = .ok (.iload_n 2, 1) := by decide +kernel
theorem dX3_held_8 : decode cX3_held 8 = .ok (.aload_n 0, 1) := by decide +kernel
theorem dX3_held_9 : decode cX3_held 9 = .ok (.getfield 27, 3) := by decide +kernel
theorem dX3_held_12 : decode cX3_held 12 = .ok (.if_icmp .ge 33, 3) := by decide +kernel
theorem dX3_held_15 : decode cX3_held 15 = .ok (.aload_n 0, 1) := by decide +kernel
theorem dX3_held_16 : decode cX3_held 16 = .ok (.iload_n 2, 1) := by decide +kernel
theorem dX3_held_17 : decode cX3_held 17 = .ok (.invokevirtual 41, 3) := by decide +kernel
theorem dX3_held_20 : decode cX3_held 20 = .ok (.astore_n 3, 1) := by decide +kernel
theorem dX3_held_21 : decode cX3_held 21 = .ok (.iload_n 1, 1) := by decide +kernel
theorem dX3_held_22 : decode cX3_held 22 = .ok (.aload_n 3, 1) := by decide +kernel
theorem dX3_held_23 : decode cX3_held 23 = .ok (.ifnonnull 7, 3) := by decide +kernel
theorem dX3_held_26 : decode cX3_held 26 = .ok (.iconst 0, 1) := by decide +kernel
theorem dX3_held_27 : decode cX3_held 27 = .ok (.goto 10, 3) := by decide +kernel
theorem dX3_held_30 : decode cX3_held 30 = .ok (.aload_n 3, 1) := by decide +kernel
theorem dX3_held_31 : decode cX3_held 31 = .ok (.getfield 45, 3) := by decide +kernel
theorem dX3_held_34 : decode cX3_held 34 = .ok (.invokevirtual 49, 3) := by decide +kernel
theorem dX3_held_37 : decode cX3_held 37 = .ok (.iadd, 1) := by decide +kernel
theorem dX3_held_38 : decode cX3_held 38 = .ok (.istore_n 1, 1) := by decide +kernel
theorem dX3_held_39 : decode cX3_held 39 = .ok (.iinc 2 1, 3) := by decide +kernel
theorem dX3_held_42 : decode cX3_held 42 = .ok (.goto (-35), 3) := by decide +kernel
theorem dX3_held_45 : decode cX3_held 45 = .ok (.iload_n 1, 1) := by decide +kernel
theorem dX3_held_46 : decode cX3_held 46 = .ok (.ireturn, 1) := by decide +kernel
theorem dX3_clear_0 : decode cX3_clear 0 = .ok (.aload_n 0, 1) := by decide +kernel
theorem dX3_clear_1 : decode cX3_clear 1 = .ok (.iconst 0, 1) := by decide +kernel
theorem dX3_clear_2 : decode cX3_clear 2 = .ok (.putfield 27, 3) := by decide +kernel
theorem dX3_clear_5 : decode cX3_clear 5 = .ok (.return_, 1) := by decide +kernel
theorem dX4_init_0 : decode cX4_init 0 = .ok (.aload_n 0, 1) := by decide +kernel
theorem dX4_init_1 : decode cX4_init 1 = .ok (.invokespecial 3, 3) := by decide +kernel
theorem dX4_init_4 : decode cX4_init 4 = .ok (.aload_n 0, 1) := by decide +kernel
theorem dX4_init_5 : decode cX4_init 5 = .ok (.iconst 4, 1) := by decide +kernel
theorem dX4_init_6 : decode cX4_init 6 = .ok (.newarray .long, 2) := by decide +kernel
theorem dX4_init_8 : decode cX4_init 8 = .ok (.putfield 9, 3) := by decide +kernel
theorem dX4_init_11 : decode cX4_init 11 = .ok (.return_, 1) := by decide +kernel
set_option maxRecDepth 20000 in
theorem ggX4_clear_J7_fill_d0a16 : GoodIn wsX4_clear wsJ7_fill_d0a16 := goodIn_r _ [10] (by decide +kernel) (by decide +kernel)
set_option maxRecDepth 20000 in
theorem gX4_clear_J7_fill_d0a16 : GoodIn wsX4_clear (va_wsS RX4 15 yJ7_fill_d0a16 wsJ7_fill_d0a16) := goodIn_app (goodIn_of _ (by decide +kernel)) ggX4_clear_J7_fill_d0a16
theorem dX4_clear_0 : decode cX4_clear 0 = .ok (.aload_n 0, 1) := by decide +kernel
theorem dX4_clear_1 : decode cX4_clear 1 = .ok (.getfield 9, 3) := by decide +kernel
theorem dX4_clear_4 : decode cX4_clear 4 = .ok (.lconst 0, 1) := by decide +kernel
theorem dX4_clear_5 : decode cX4_clear 5 = .ok (.invokestatic 15, 3) := by decide +kernel
theorem dX4_clear_8 : decode cX4_clear 8 = .ok (.aload_n 0, 1) := by decide +kernel
theorem dX4_clear_9 : decode cX4_clear 9 = .ok (.lconst 0, 1) := by decide +kernel
theorem dX4_clear_10 : decode cX4_clear 10 = .ok (.putfield 21, 3) := by decide +kernel
theorem dX4_clear_13 : decode cX4_clear 13 = .ok (.aload_n 0, 1) := by decide +kernel
theorem dX4_clear_14 : decode cX4_clear 14 = .ok (.lconst 0, 1) := by decide +kernel
theorem dX4_clear_15 : decode cX4_clear 15 = .ok (.putfield 25, 3) := by decide +kernel
theorem dX4_clear_18 : decode cX4_clear 18 = .ok (.aload_n 0, 1) := by decide +kernel
theorem dX4_clear_19 : decode cX4_clear 19 = .ok (.lconst 0, 1) := by decide +kernel
theorem dX4_clear_20 : decode cX4_clear 20 = .ok (.putfield 28, 3) := by decide +kernel
theorem dX4_clear_23 : decode cX4_clear 23 = .ok (.aload_n 0, 1) := by decide +kernel
theorem dX4_clear_24 : decode cX4_clear 24 = .ok (.lconst 0, 1) := by decide +kernel
theorem dX4_clear_25 : decode cX4_clear 25 = .ok (.putfield 31, 3) := by decide +kernel
theorem dX4_clear_28 : decode cX4_clear 28 = .ok (.aload_n 0, 1) := by decide +kernel
theorem dX4_clear_29 : decode cX4_clear 29 = .ok (.iload_n 1, 1) := by decide +kernel
theorem dX4_clear_30 : decode cX4_clear 30 = .ok (.putfield 34, 3) := by decide +kernel
theorem dX4_clear_33 : decode cX4_clear 33 = .ok (.return_, 1) := by decide +kernel
set_option maxRecDepth 20000 in
theorem ggX4_take_X0_at : GoodIn wsX4_take wsX0_at := goodIn_r _ [7, 8, 9, 36, 37] (by decide +kernel) (by decide +kernel)
set_option maxRecDepth 20000 in
theorem gX4_take_X0_at : GoodIn wsX4_take (wsV RX4 38 RX0 yX0_at wsX0_at) := goodIn_app (goodIn_of _ (by decide +kernel)) ggX4_take_X0_at
set_option maxRecDepth 20000 in
theorem ggX4_take_X4_takeSolid : GoodIn wsX4_take wsX4_takeSolid := goodIn_r _ [14, 2, 15, 16, 17, 18, 19, 1, 20, 21, 22, 23, 3, 4, 5, 6, 7, 8, 9, 30, 31, 32, 33, 34, 35, 36, 37] (by decide +kernel) (by decide +kernel)
set_option maxRecDepth 20000 in
theorem gX4_take_X4_takeSolid : GoodIn wsX4_take (wsV RX4 44 RX4 yX4_takeSolid wsX4_takeSolid) := goodIn_app (goodIn_of _ (by decide +kernel)) ggX4_take_X4_takeSolid
set_option maxRecDepth 20000 in
theorem ggX4_take_X4_takeGlue : GoodIn wsX4_take wsX4_takeGlue := goodIn_r _ [27, 2, 28, 29, 3, 4, 5, 6, 7, 8, 9, 30, 31, 32, 33, 34, 35, 36, 37] (by decide +kernel) (by decide +kernel)
set_option maxRecDepth 20000 in
theorem gX4_take_X4_takeGlue : GoodIn wsX4_take (wsV RX4 48 RX4 yX4_takeGlue wsX4_takeGlue) := goodIn_app (goodIn_of _ (by decide +kernel)) ggX4_take_X4_takeGlue
theorem dX4_take_0 : decode cX4_take 0 = .ok (.aload_n 0, 1) := by decide +kernel
theorem dX4_take_1 : decode cX4_take 1 = .ok (.lconst 0, 1) := by decide +kernel
theorem dX4_take_2 : decode cX4_take 2 = .ok (.putfield 28, 3) := by decide +kernel
theorem dX4_take_5 : decode cX4_take 5 = .ok (.aload_n 1, 1) := by decide +kernel
theorem dX4_take_6 : decode cX4_take 6 = .ok (.iload_n 2, 1) := by decide +kernel
theorem dX4_take_7 : decode cX4_take 7 = .ok (.iconst 0, 1) := by decide +kernel
theorem dX4_take_8 : decode cX4_take 8 = .ok (.invokevirtual 38, 3) := by decide +kernel
theorem dX4_take_11 : decode cX4_take 11 = .ok (.tableswitch 70 2 6 #[33, 70, 33, 42, 51], 33) := by decide +kernel
theorem dX4_take_44 : decode cX4_take 44 = .ok (.aload_n 0, 1) := by decide +kernel
theorem dX4_take_45 : decode cX4_take 45 = .ok (.aload_n 1, 1) := by decide +kernel
theorem dX4_take_46 : decode cX4_take 46 = .ok (.iload_n 2, 1) := by decide +kernel
theorem dX4_take_47 : decode cX4_take 47 = .ok (.invokevirtual 44, 3) := by decide +kernel
theorem dX4_take_50 : decode cX4_take 50 = .ok (.goto 31, 3) := by decide +kernel
theorem dX4_take_53 : decode cX4_take 53 = .ok (.aload_n 0, 1) := by decide +kernel
theorem dX4_take_54 : decode cX4_take 54 = .ok (.aload_n 1, 1) := by decide +kernel
theorem dX4_take_55 : decode cX4_take 55 = .ok (.iload_n 2, 1) := by decide +kernel
theorem dX4_take_56 : decode cX4_take 56 = .ok (.invokevirtual 48, 3) := by decide +kernel
theorem dX4_take_59 : decode cX4_take 59 = .ok (.goto 22, 3) := by decide +kernel
theorem dX4_take_62 : decode cX4_take 62 = .ok (.aload_n 0, 1) := by decide +kernel
theorem dX4_take_63 : decode cX4_take 63 = .ok (.dup, 1) := by decide +kernel
theorem dX4_take_64 : decode cX4_take 64 = .ok (.getfield 25, 3) := by decide +kernel
theorem dX4_take_67 : decode cX4_take 67 = .ok (.aload_n 1, 1) := by decide +kernel
theorem dX4_take_68 : decode cX4_take 68 = .ok (.iload_n 2, 1) := by decide +kernel
theorem dX4_take_69 : decode cX4_take 69 = .ok (.iconst 1, 1) := by decide +kernel
theorem dX4_take_70 : decode cX4_take 70 = .ok (.invokevirtual 38, 3) := by decide +kernel
theorem dX4_take_73 : decode cX4_take 73 = .ok (.i2l, 1) := by decide +kernel
theorem dX4_take_74 : decode cX4_take 74 = .ok (.ladd, 1) := by decide +kernel
theorem dX4_take_75 : decode cX4_take 75 = .ok (.putfield 25, 3) := by decide +kernel
theorem dX4_take_78 : decode cX4_take 78 = .ok (.goto 3, 3) := by decide +kernel
theorem dX4_take_81 : decode cX4_take 81 = .ok (.return_, 1) := by decide +kernel
set_option maxRecDepth 20000 in
theorem ggX4_takeSolid_X0_at : GoodIn wsX4_takeSolid wsX0_at := goodIn_r _ [16, 17, 18, 25, 26] (by decide +kernel) (by decide +kernel)
set_option maxRecDepth 20000 in
theorem gX4_takeSolid_X0_at : GoodIn wsX4_takeSolid (wsV RX4 38 RX0 yX0_at wsX0_at) := goodIn_app (goodIn_of _ (by decide +kernel)) ggX4_takeSolid_X0_at
theorem dX4_takeSolid_0 : decode cX4_takeSolid 0 = .ok (.aload_n 1, 1) := by decide +kernel
theorem dX4_takeSolid_1 : decode cX4_takeSolid 1 = .ok (.iload_n 2, 1) := by decide +kernel
theorem dX4_takeSolid_2 : decode cX4_takeSolid 2 = .ok (.iconst 3, 1) := by decide +kernel
theorem dX4_takeSolid_3 : decode cX4_takeSolid 3 = .ok (.invokevirtual 38, 3) := by decide +kernel
theorem dX4_takeSolid_6 : decode cX4_takeSolid 6 = .ok (.i2l, 1) := by decide +kernel
theorem dX4_takeSolid_7 : decode cX4_takeSolid 7 = .ok (.lstore_n 3, 1) := by decide +kernel
theorem dX4_takeSolid_8 : decode cX4_takeSolid 8 = .ok (.aload_n 0, 1) := by decide +kernel
theorem dX4_takeSolid_9 : decode cX4_takeSolid 9 = .ok (.dup, 1) := by decide +kernel
theorem dX4_takeSolid_10 : decode cX4_takeSolid 10 = .ok (.getfield 25, 3) := by decide +kernel
theorem dX4_takeSolid_13 : decode cX4_takeSolid 13 = .ok (.aload_n 1, 1) := by decide +kernel
theorem dX4_takeSolid_14 : decode cX4_takeSolid 14 = .ok (.iload_n 2, 1) := by decide +kernel
theorem dX4_takeSolid_15 : decode cX4_takeSolid 15 = .ok (.iconst 2, 1) := by decide +kernel
theorem dX4_takeSolid_16 : decode cX4_takeSolid 16 = .ok (.invokevirtual 38, 3) := by decide +kernel
theorem dX4_takeSolid_19 : decode cX4_takeSolid 19 = .ok (.i2l, 1) := by decide +kernel
theorem dX4_takeSolid_20 : decode cX4_takeSolid 20 = .ok (.lload_n 3, 1) := by decide +kernel
theorem dX4_takeSolid_21 : decode cX4_takeSolid 21 = .ok (.ladd, 1) := by decide +kernel
theorem dX4_takeSolid_22 : decode cX4_takeSolid 22 = .ok (.ladd, 1) := by decide +kernel
theorem dX4_takeSolid_23 : decode cX4_takeSolid 23 = .ok (.putfield 25, 3) := by decide +kernel
theorem dX4_takeSolid_26 : decode cX4_takeSolid 26 = .ok (.aload_n 0, 1) := by decide +kernel
theorem dX4_takeSolid_27 : decode cX4_takeSolid 27 = .ok (.lload_n 3, 1) := by decide +kernel
theorem dX4_takeSolid_28 : decode cX4_takeSolid 28 = .ok (.aload_n 0, 1) := by decide +kernel
theorem dX4_takeSolid_29 : decode cX4_takeSolid 29 = .ok (.getfield 34, 3) := by decide +kernel
theorem dX4_takeSolid_32 : decode cX4_takeSolid 32 = .ok (.i2l, 1) := by decide +kernel
theorem dX4_takeSolid_33 : decode cX4_takeSolid 33 = .ok (.invokestatic 51, 3) := by decide +kernel
theorem dX4_takeSolid_36 : decode cX4_takeSolid 36 = .ok (.putfield 28, 3) := by decide +kernel
theorem dX4_takeSolid_39 : decode cX4_takeSolid 39 = .ok (.aload_n 0, 1) := by decide +kernel
theorem dX4_takeSolid_40 : decode cX4_takeSolid 40 = .ok (.aload_n 0, 1) := by decide +kernel
theorem dX4_takeSolid_41 : decode cX4_takeSolid 41 = .ok (.getfield 31, 3) := by decide +kernel
theorem dX4_takeSolid_44 : decode cX4_takeSolid 44 = .ok (.aload_n 1, 1) := by decide +kernel
theorem dX4_takeSolid_45 : decode cX4_takeSolid 45 = .ok (.iload_n 2, 1) := by decide +kernel
theorem dX4_takeSolid_46 : decode cX4_takeSolid 46 = .ok (.iconst 1, 1) := by decide +kernel
theorem dX4_takeSolid_47 : decode cX4_takeSolid 47 = .ok (.invokevirtual 38, 3) := by decide +kernel
theorem dX4_takeSolid_50 : decode cX4_takeSolid 50 = .ok (.i2l, 1) := by decide +kernel
theorem dX4_takeSolid_51 : decode cX4_takeSolid 51 = .ok (.aload_n 1, 1) := by decide +kernel
theorem dX4_takeSolid_52 : decode cX4_takeSolid 52 = .ok (.iload_n 2, 1) := by decide +kernel
theorem dX4_takeSolid_53 : decode cX4_takeSolid 53 = .ok (.iconst 4, 1) := by decide +kernel
theorem dX4_takeSolid_54 : decode cX4_takeSolid 54 = .ok (.invokevirtual 38, 3) := by decide +kernel
theorem dX4_takeSolid_57 : decode cX4_takeSolid 57 = .ok (.i2l, 1) := by decide +kernel
theorem dX4_takeSolid_58 : decode cX4_takeSolid 58 = .ok (.ladd, 1) := by decide +kernel
theorem dX4_takeSolid_59 : decode cX4_takeSolid 59 = .ok (.invokestatic 57, 3) := by decide +kernel
theorem dX4_takeSolid_62 : decode cX4_takeSolid 62 = .ok (.putfield 31, 3) := by decide +kernel
theorem dX4_takeSolid_65 : decode cX4_takeSolid 65 = .ok (.return_, 1) := by decide +kernel
set_option maxRecDepth 20000 in
theorem ggX4_takeGlue_X0_at : GoodIn wsX4_takeGlue wsX0_at := goodIn_r _ [8, 9, 10, 17, 18] (by decide +kernel) (by decide +kernel)
set_option maxRecDepth 20000 in
theorem gX4_takeGlue_X0_at : GoodIn wsX4_takeGlue (wsV RX4 38 RX0 yX0_at wsX0_at) := goodIn_app (goodIn_of _ (by decide +kernel)) ggX4_takeGlue_X0_at
theorem dX4_takeGlue_0 : decode cX4_takeGlue 0 = .ok (.aload_n 0, 1) := by decide +kernel
theorem dX4_takeGlue_1 : decode cX4_takeGlue 1 = .ok (.dup, 1) := by decide +kernel
theorem dX4_takeGlue_2 : decode cX4_takeGlue 2 = .ok (.getfield 25, 3) := by decide +kernel
theorem dX4_takeGlue_5 : decode cX4_takeGlue 5 = .ok (.aload_n 1, 1) := by decide +kernel
theorem dX4_takeGlue_6 : decode cX4_takeGlue 6 = .ok (.iload_n 2, 1) := by decide +kernel
theorem dX4_takeGlue_7 : decode cX4_takeGlue 7 = .ok (.iconst 1, 1) := by decide +kernel
theorem dX4_takeGlue_8 : decode cX4_takeGlue 8 = .ok (.invokevirtual 38, 3) := by decide +kernel
theorem dX4_takeGlue_11 : decode cX4_takeGlue 11 = .ok (.i2l, 1) := by decide +kernel
theorem dX4_takeGlue_12 : decode cX4_takeGlue 12 = .ok (.ladd, 1) := by decide +kernel
theorem dX4_takeGlue_13 : decode cX4_takeGlue 13 = .ok (.putfield 25, 3) := by decide +kernel
theorem dX4_takeGlue_16 : decode cX4_takeGlue 16 = .ok (.aload_n 0, 1) := by decide +kernel
theorem dX4_takeGlue_17 : decode cX4_takeGlue 17 = .ok (.dup, 1) := by decide +kernel
theorem dX4_takeGlue_18 : decode cX4_takeGlue 18 = .ok (.getfield 21, 3) := by decide +kernel
theorem dX4_takeGlue_21 : decode cX4_takeGlue 21 = .ok (.aload_n 1, 1) := by decide +kernel
theorem dX4_takeGlue_22 : decode cX4_takeGlue 22 = .ok (.iload_n 2, 1) := by decide +kernel
theorem dX4_takeGlue_23 : decode cX4_takeGlue 23 = .ok (.bipush 7, 2) := by decide +kernel
theorem dX4_takeGlue_25 : decode cX4_takeGlue 25 = .ok (.invokevirtual 38, 3) := by decide +kernel
theorem dX4_takeGlue_28 : decode cX4_takeGlue 28 = .ok (.i2l, 1) := by decide +kernel
theorem dX4_takeGlue_29 : decode cX4_takeGlue 29 = .ok (.ladd, 1) := by decide +kernel
theorem dX4_takeGlue_30 : decode cX4_takeGlue 30 = .ok (.putfield 21, 3) := by decide +kernel
theorem dX4_takeGlue_33 : decode cX4_takeGlue 33 = .ok (.aload_n 1, 1) := by decide +kernel
theorem dX4_takeGlue_34 : decode cX4_takeGlue 34 = .ok (.iload_n 2, 1) := by decide +kernel
theorem dX4_takeGlue_35 : decode cX4_takeGlue 35 = .ok (.bipush 6, 2) := by decide +kernel
theorem dX4_takeGlue_37 : decode cX4_takeGlue 37 = .ok (.invokevirtual 38, 3) := by decide +kernel
theorem dX4_takeGlue_40 : decode cX4_takeGlue 40 = .ok (.istore_n 3, 1) := by decide +kernel
theorem dX4_takeGlue_41 : decode cX4_takeGlue 41 = .ok (.iload_n 3, 1) := by decide +kernel
theorem dX4_takeGlue_42 : decode cX4_takeGlue 42 = .ok (.ifCond .lt 24, 3) := by decide +kernel
theorem dX4_takeGlue_45 : decode cX4_takeGlue 45 = .ok (.iload_n 3, 1) := by decide +kernel
theorem dX4_takeGlue_46 : decode cX4_takeGlue 46 = .ok (.iconst 4, 1) := by decide +kernel
theorem dX4_takeGlue_47 : decode cX4_takeGlue 47 = .ok (.if_icmp .ge 19, 3) := by decide +kernel
theorem dX4_takeGlue_50 : decode cX4_takeGlue 50 = .ok (.aload_n 0, 1) := by decide +kernel
theorem dX4_takeGlue_51 : decode cX4_takeGlue 51 = .ok (.getfield 9, 3) := by decide +kernel
theorem dX4_takeGlue_54 : decode cX4_takeGlue 54 = .ok (.iload_n 3, 1) := by decide +kernel
theorem dX4_takeGlue_55 : decode cX4_takeGlue 55 = .ok (.dup2, 1) := by decide +kernel
theorem dX4_takeGlue_56 : decode cX4_takeGlue 56 = .ok (.laload, 1) := by decide +kernel
theorem dX4_takeGlue_57 : decode cX4_takeGlue 57 = .ok (.aload_n 1, 1) := by decide +kernel
theorem dX4_takeGlue_58 : decode cX4_takeGlue 58 = .ok (.iload_n 2, 1) := by decide +kernel
theorem dX4_takeGlue_59 : decode cX4_takeGlue 59 = .ok (.iconst 5, 1) := by decide +kernel
theorem dX4_takeGlue_60 : decode cX4_takeGlue 60 = .ok (.invokevirtual 38, 3) := by decide +kernel
theorem dX4_takeGlue_63 : decode cX4_takeGlue 63 = .ok (.i2l, 1) := by decide +kernel
theorem dX4_takeGlue_64 : decode cX4_takeGlue 64 = .ok (.ladd, 1) := by decide +kernel
theorem dX4_takeGlue_65 : decode cX4_takeGlue 65 = .ok (.lastore, 1) := by decide +kernel
theorem dX4_takeGlue_66 : decode cX4_takeGlue 66 = .ok (.return_, 1) := by decide +kernel
theorem dX4_total_0 : decode cX4_total 0 = .ok (.aload_n 0, 1) := by decide +kernel
theorem dX4_total_1 : decode cX4_total 1 = .ok (.getfield 25, 3) := by decide +kernel
theorem dX4_total_4 : decode cX4_total 4 = .ok (.aload_n 0, 1) := by decide +kernel
theorem dX4_total_5 : decode cX4_total 5 = .ok (.getfield 28, 3) := by decide +kernel
theorem dX4_total_8 : decode cX4_total 8 = .ok (.lsub, 1) := by decide +kernel
theorem dX4_total_9 : decode cX4_total 9 = .ok (.lreturn, 1) := by decide +kernel
theorem dX4_stretchOf_0 : decode cX4_stretchOf 0 = .ok (.iload_n 1, 1) := by decide +kernel
theorem dX4_stretchOf_1 : decode cX4_stretchOf 1 = .ok (.ifCond .lt 17, 3) := by decide +kernel
theorem dX4_stretchOf_4 : decode cX4_stretchOf 4 = .ok (.iload_n 1, 1) := by decide +kernel
theorem dX4_stretchOf_5 : decode cX4_stretchOf 5 = .ok (.iconst 4, 1) := by decide +kernel
theorem dX4_stretchOf_6 : decode cX4_stretchOf 6 = .ok (.if_icmp .ge 12, 3) := by decide +kernel
theorem dX4_stretchOf_9 : decode cX4_stretchOf 9 = .ok (.aload_n 0, 1) := by decide +kernel
theorem dX4_stretchOf_10 : decode cX4_stretchOf 10 = .ok (.getfield 9, 3) := by decide +kernel
theorem dX4_stretchOf_13 : decode cX4_stretchOf 13 = .ok (.iload_n 1, 1) := by decide +kernel
theorem dX4_stretchOf_14 : decode cX4_stretchOf 14 = .ok (.laload, 1) := by decide +kernel
theorem dX4_stretchOf_15 : decode cX4_stretchOf 15 = .ok (.goto 4, 3) := by decide +kernel
theorem dX4_stretchOf_18 : decode cX4_stretchOf 18 = .ok (.lconst 0, 1) := by decide +kernel
theorem dX4_stretchOf_19 : decode cX4_stretchOf 19 = .ok (.lreturn, 1) := by decide +kernel
theorem dX4_highestOrder_0 : decode cX4_highestOrder 0 = .ok (.iconst 3, 1) := by decide +kernel
theorem dX4_highestOrder_1 : decode cX4_highestOrder 1 = .ok (.istore_n 1, 1) := by decide +kernel
theorem dX4_highestOrder_2 : decode cX4_highestOrder 2 = .ok (.iload_n 1, 1) := by decide +kernel
theorem dX4_highestOrder_3 : decode cX4_highestOrder 3 = .ok (.ifCond .lt 22, 3) := by decide +kernel
theorem dX4_highestOrder_6 : decode cX4_highestOrder 6 = .ok (.aload_n 0, 1) := by decide +kernel
theorem dX4_highestOrder_7 : decode cX4_highestOrder 7 = .ok (.getfield 9, 3) := by decide +kernel
theorem dX4_highestOrder_10 : decode cX4_highestOrder 10 = .ok (.iload_n 1, 1) := by decide +kernel
theorem dX4_highestOrder_11 : decode cX4_highestOrder 11 = .ok (.laload, 1) := by decide +kernel
theorem dX4_highestOrder_12 : decode cX4_highestOrder 12 = .ok (.lconst 0, 1) := by decide +kernel
theorem dX4_highestOrder_13 : decode cX4_highestOrder 13 = .ok (.lcmp, 1) := by decide +kernel
theorem dX4_highestOrder_14 : decode cX4_highestOrder 14 = .ok (.ifCond .le 5, 3) := by decide +kernel
theorem dX4_highestOrder_17 : decode cX4_highestOrder 17 = .ok (.iload_n 1, 1) := by decide +kernel
theorem dX4_highestOrder_18 : decode cX4_highestOrder 18 = .ok (.ireturn, 1) := by decide +kernel
theorem dX4_highestOrder_19 : decode cX4_highestOrder 19 = .ok (.iinc 1 (-1), 3) := by decide +kernel
theorem dX4_highestOrder_22 : decode cX4_highestOrder 22 = .ok (.goto (-20), 3) := by decide +kernel
theorem dX4_highestOrder_25 : decode cX4_highestOrder 25 = .ok (.iconst (-1), 1) := by decide +kernel
theorem dX4_highestOrder_26 : decode cX4_highestOrder 26 = .ok (.ireturn, 1) := by decide +kernel
set_option maxRecDepth 20000 in
theorem ggX4_areSizes_X5_isSize : GoodIn wsX4_areSizes wsX5_isSize := goodIn_r _ [6, 7, 8] (by decide +kernel) (by decide +kernel)
set_option maxRecDepth 20000 in
theorem gX4_areSizes_X5_isSize_n60 : GoodIn wsX4_areSizes (wsX5_isSize) := ggX4_areSizes_X5_isSize
set_option maxRecDepth 20000 in
theorem ggX4_areSizes_X4_total : GoodIn wsX4_areSizes wsX4_total := goodIn_r _ [13, 14, 15, 16, 17, 18, 19, 20, 21] (by decide +kernel) (by decide +kernel)
set_option maxRecDepth 20000 in
theorem gX4_areSizes_X4_total : GoodIn wsX4_areSizes (wsV RX4 64 RX4 yX4_total wsX4_total) := goodIn_app (goodIn_of _ (by decide +kernel)) ggX4_areSizes_X4_total
theorem dX4_areSizes_0 : decode cX4_areSizes 0 = .ok (.iconst 0, 1) := by decide +kernel
theorem dX4_areSizes_1 : decode cX4_areSizes 1 = .ok (.istore_n 1, 1) := by decide +kernel
theorem dX4_areSizes_2 : decode cX4_areSizes 2 = .ok (.iload_n 1, 1) := by decide +kernel
theorem dX4_areSizes_3 : decode cX4_areSizes 3 = .ok (.iconst 4, 1) := by decide +kernel
theorem dX4_areSizes_4 : decode cX4_areSizes 4 = .ok (.if_icmp .ge 23, 3) := by decide +kernel
theorem dX4_areSizes_7 : decode cX4_areSizes 7 = .ok (.aload_n 0, 1) := by decide +kernel
theorem dX4_areSizes_8 : decode cX4_areSizes 8 = .ok (.getfield 9, 3) := by decide +kernel
theorem dX4_areSizes_11 : decode cX4_areSizes 11 = .ok (.iload_n 1, 1) := by decide +kernel
theorem dX4_areSizes_12 : decode cX4_areSizes 12 = .ok (.laload, 1) := by decide +kernel
theorem dX4_areSizes_13 : decode cX4_areSizes 13 = .ok (.invokestatic 60, 3) := by decide +kernel
theorem dX4_areSizes_16 : decode cX4_areSizes 16 = .ok (.ifCond .ne 5, 3) := by decide +kernel
theorem dX4_areSizes_19 : decode cX4_areSizes 19 = .ok (.iconst 0, 1) := by decide +kernel
theorem dX4_areSizes_20 : decode cX4_areSizes 20 = .ok (.ireturn, 1) := by decide +kernel
theorem dX4_areSizes_21 : decode cX4_areSizes 21 = .ok (.iinc 1 1, 3) := by decide +kernel
theorem dX4_areSizes_24 : decode cX4_areSizes 24 = .ok (.goto (-22), 3) := by decide +kernel
theorem dX4_areSizes_27 : decode cX4_areSizes 27 = .ok (.aload_n 0, 1) := by decide +kernel
theorem dX4_areSizes_28 : decode cX4_areSizes 28 = .ok (.invokevirtual 64, 3) := by decide +kernel
theorem dX4_areSizes_31 : decode cX4_areSizes 31 = .ok (.invokestatic 60, 3) := by decide +kernel
theorem dX4_areSizes_34 : decode cX4_areSizes 34 = .ok (.ifCond .eq 27, 3) := by decide +kernel
theorem dX4_areSizes_37 : decode cX4_areSizes 37 = .ok (.aload_n 0, 1) := by decide +kernel
theorem dX4_areSizes_38 : decode cX4_areSizes 38 = .ok (.getfield 21, 3) := by decide +kernel
theorem dX4_areSizes_41 : decode cX4_areSizes 41 = .ok (.invokestatic 60, 3) := by decide +kernel
theorem dX4_areSizes_44 : decode cX4_areSizes 44 = .ok (.ifCond .eq 17, 3) := by decide +kernel
theorem dX4_areSizes_47 : decode cX4_areSizes 47 = .ok (.aload_n 0, 1) := by decide +kernel
theorem dX4_areSizes_48 : decode cX4_areSizes 48 = .ok (.getfield 31, 3) := by decide +kernel
theorem dX4_areSizes_51 : decode cX4_areSizes 51 = .ok (.invokestatic 60, 3) := by decide +kernel
theorem dX4_areSizes_54 : decode cX4_areSizes 54 = .ok (.ifCond .eq 7, 3) := by decide +kernel
theorem dX4_areSizes_57 : decode cX4_areSizes 57 = .ok (.iconst 1, 1) := by decide +kernel
theorem dX4_areSizes_58 : decode cX4_areSizes 58 = .ok (.goto 4, 3) := by decide +kernel
theorem dX4_areSizes_61 : decode cX4_areSizes 61 = .ok (.iconst 0, 1) := by decide +kernel
theorem dX4_areSizes_62 : decode cX4_areSizes 62 = .ok (.ireturn, 1) := by decide +kernel
set_option maxRecDepth 20000 in
theorem ggX5_init_X0_init : GoodIn wsX5_init wsX0_init := goodIn_r _ [23, 24, 2, 3, 25, 26, 74, 75] (by decide +kernel) (by decide +kernel)
set_option maxRecDepth 20000 in
theorem gX5_init_X0_init : GoodIn wsX5_init (wsX0_init) := ggX5_init_X0_init
set_option maxRecDepth 20000 in
theorem ggX5_init_X2_init : GoodIn wsX5_init wsX2_init := goodIn_r _ [28, 29, 2, 3, 30, 17, 18, 31, 32, 33, 34, 35, 36, 37, 97, 98, 99, 100, 101, 102, 87, 88, 89, 90, 91, 92] (by decide +kernel) (by decide +kernel)
set_option maxRecDepth 20000 in
theorem gX5_init_X2_init_n20 : GoodIn wsX5_init (wsX2_init) := ggX5_init_X2_init
set_option maxRecDepth 20000 in
theorem ggX5_init_X3_init : GoodIn wsX5_init wsX3_init := goodIn_r _ [39, 40, 2, 3, 41, 42, 93, 94, 95, 96] (by decide +kernel) (by decide +kernel)
set_option maxRecDepth 20000 in
theorem gX5_init_X3_init_n27 : GoodIn wsX5_init (wsX3_init) := ggX5_init_X3_init
set_option maxRecDepth 20000 in
theorem ggX5_init_X4_init : GoodIn wsX5_init wsX4_init := goodIn_r _ [34, 35, 2, 3, 36, 37, 97, 98, 99, 100, 101, 102] (by decide +kernel) (by decide +kernel)
set_option maxRecDepth 20000 in
theorem gX5_init_X4_init_n34 : GoodIn wsX5_init (wsX4_init) := ggX5_init_X4_init
set_option maxRecDepth 20000 in
theorem ggX5_init_X0_append : GoodIn wsX5_init wsX0_append := goodIn_r _ [46, 47, 26, 48, 49, 50, 6, 51, 52, 53, 54, 55, 56, 57, 58, 59, 60, 61, 62, 63, 64, 65, 66, 67, 68, 25, 69, 70, 71, 72, 73, 74, 75] (by decide +kernel) (by decide +kernel)
set_option maxRecDepth 20000 in
theorem gX5_init_X0_append : GoodIn wsX5_init (wsV RX5 39 RX0 yX0_append wsX0_append) := goodIn_app (goodIn_of _ (by decide +kernel)) ggX5_init_X0_append
theorem dX5_init_0 : decode cX5_init 0 = .ok (.aload_n 0, 1) := by decide +kernel
theorem dX5_init_1 : decode cX5_init 1 = .ok (.invokespecial 3, 3) := by decide +kernel
theorem dX5_init_4 : decode cX5_init 4 = .ok (.aload_n 0, 1) := by decide +kernel
theorem dX5_init_5 : decode cX5_init 5 = .ok (.new 9, 3) := by decide +kernel
theorem dX5_init_8 : decode cX5_init 8 = .ok (.dup, 1) := by decide +kernel
theorem dX5_init_9 : decode cX5_init 9 = .ok (.bipush 64, 2) := by decide +kernel
theorem dX5_init_11 : decode cX5_init 11 = .ok (.invokespecial 11, 3) := by decide +kernel
theorem dX5_init_14 : decode cX5_init 14 = .ok (.putfield 14, 3) := by decide +kernel
theorem dX5_init_17 : decode cX5_init 17 = .ok (.aload_n 0, 1) := by decide +kernel
theorem dX5_init_18 : decode cX5_init 18 = .ok (.new 18, 3) := by decide +kernel
theorem dX5_init_21 : decode cX5_init 21 = .ok (.dup, 1) := by decide +kernel
theorem dX5_init_22 : decode cX5_init 22 = .ok (.invokespecial 20, 3) := by decide +kernel
theorem dX5_init_25 : decode cX5_init 25 = .ok (.putfield 21, 3) := by decide +kernel
theorem dX5_init_28 : decode cX5_init 28 = .ok (.aload_n 0, 1) := by decide +kernel
theorem dX5_init_29 : decode cX5_init 29 = .ok (.new 25, 3) := by decide +kernel
theorem dX5_init_32 : decode cX5_init 32 = .ok (.dup, 1) := by decide +kernel
theorem dX5_init_33 : decode cX5_init 33 = .ok (.invokespecial 27, 3) := by decide +kernel
theorem dX5_init_36 : decode cX5_init 36 = .ok (.putfield 28, 3) := by decide +kernel
theorem dX5_init_39 : decode cX5_init 39 = .ok (.aload_n 0, 1) := by decide +kernel
theorem dX5_init_40 : decode cX5_init 40 = .ok (.new 32, 3) := by decide +kernel
theorem dX5_init_43 : decode cX5_init 43 = .ok (.dup, 1) := by decide +kernel
theorem dX5_init_44 : decode cX5_init 44 = .ok (.invokespecial 34, 3) := by decide +kernel
