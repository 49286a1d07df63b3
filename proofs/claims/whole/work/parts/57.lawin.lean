theorem lin_1 : ∀ w ∈ wsL_law0_r1, w ∈ lw_tbl := by decide +kernel
theorem lin_2 : ∀ w ∈ wsL_law0_r2, w ∈ lw_tbl := by decide +kernel
theorem lin_3 : ∀ w ∈ wsL_law0_r3, w ∈ lw_tbl := by decide +kernel
theorem lin_4 : ∀ w ∈ wsL_law0_r4, w ∈ lw_tbl := by decide +kernel
theorem lin_5 : ∀ w ∈ wsL_law0_r5, w ∈ lw_tbl := by decide +kernel
theorem lin_6 : ∀ w ∈ wsL_law0_r6, w ∈ lw_tbl := by decide +kernel
theorem lin_7 : ∀ w ∈ wsL_law0_r7, w ∈ lw_tbl := by decide +kernel
theorem lin_8 : ∀ w ∈ wsL_law0_r8, w ∈ lw_tbl := by decide +kernel
theorem lin_9 : ∀ w ∈ wsL_law0_r9, w ∈ lw_tbl := by decide +kernel
theorem lin_10 : ∀ w ∈ wsL_law0_r10, w ∈ lw_tbl := by decide +kernel
theorem lin_11 : ∀ w ∈ wsL_law0_r11, w ∈ lw_tbl := by decide +kernel
theorem lin_12 : ∀ w ∈ wsL_law0_r12, w ∈ lw_tbl := by decide +kernel
theorem lin_13 : ∀ w ∈ wsL_law0_r13, w ∈ lw_tbl := by decide +kernel
theorem lin_14 : ∀ w ∈ wsL_law0_r14, w ∈ lw_tbl := by decide +kernel
theorem lin_15 : ∀ w ∈ wsL_law0_r15, w ∈ lw_tbl := by decide +kernel
theorem lin_16 : ∀ w ∈ wsL_law0_r16, w ∈ lw_tbl := by decide +kernel
theorem lin_17 : ∀ w ∈ wsL_law0_r17, w ∈ lw_tbl := by decide +kernel
theorem lin_18 : ∀ w ∈ wsL_law0_r18, w ∈ lw_tbl := by decide +kernel
theorem lin_19 : ∀ w ∈ wsL_law0_r19, w ∈ lw_tbl := by decide +kernel
theorem lin_20 : ∀ w ∈ wsL_law0_r20, w ∈ lw_tbl := by decide +kernel
theorem lin_21 : ∀ w ∈ wsL_law0_r21, w ∈ lw_tbl := by decide +kernel
theorem lin_22 : ∀ w ∈ wsL_law0_r22, w ∈ lw_tbl := by decide +kernel
theorem lin_23 : ∀ w ∈ wsL_law0_r23, w ∈ lw_tbl := by decide +kernel
theorem lin_24 : ∀ w ∈ wsL_law0_r24, w ∈ lw_tbl := by decide +kernel
theorem lin_25 : ∀ w ∈ wsL_law0_r25, w ∈ lw_tbl := by decide +kernel
theorem lin_X0 : ∀ w ∈ wsX00, w ∈ lw_tbl := by decide +kernel
theorem lin_X1 : ∀ w ∈ wsX10, w ∈ lw_tbl := by decide +kernel
theorem lin_X2 : ∀ w ∈ wsX20, w ∈ lw_tbl := by decide +kernel
theorem lin_X3 : ∀ w ∈ wsX30, w ∈ lw_tbl := by decide +kernel
theorem lin_X4 : ∀ w ∈ wsX40, w ∈ lw_tbl := by decide +kernel
theorem lin_X5 : ∀ w ∈ wsX50, w ∈ lw_tbl := by decide +kernel
theorem lin_X6 : ∀ w ∈ wsX60, w ∈ lw_tbl := by decide +kernel
theorem wsL_law_in0 : ∀ w ∈ wsL_law0, w ∈ lw_tbl := by
  intro w h
  have hR : w ∈ _ → w ∈ lw_tbl := fun h => (List.mem_append.mp h).elim (lin_1 w) (fun h => (List.mem_append.mp h).elim (lin_2 w) (fun h => (List.mem_append.mp h).elim (lin_3 w) (fun h => (List.mem_append.mp h).elim (lin_4 w) (fun h => (List.mem_append.mp h).elim (lin_5 w) (fun h => (List.mem_append.mp h).elim (lin_6 w) (fun h => (List.mem_append.mp h).elim (lin_7 w) (fun h => (List.mem_append.mp h).elim (lin_8 w) (fun h => (List.mem_append.mp h).elim (lin_9 w) (fun h => (List.mem_append.mp h).elim (lin_10 w) (fun h => (List.mem_append.mp h).elim (lin_11 w) (fun h => (List.mem_append.mp h).elim (lin_12 w) (fun h => (List.mem_append.mp h).elim (lin_13 w) (fun h => (List.mem_append.mp h).elim (lin_14 w) (fun h => (List.mem_append.mp h).elim (lin_15 w) (fun h => (List.mem_append.mp h).elim (lin_16 w) (fun h => (List.mem_append.mp h).elim (lin_17 w) (fun h => (List.mem_append.mp h).elim (lin_18 w) (fun h => (List.mem_append.mp h).elim (lin_19 w) (fun h => (List.mem_append.mp h).elim (lin_20 w) (fun h => (List.mem_append.mp h).elim (lin_21 w) (fun h => (List.mem_append.mp h).elim (lin_22 w) (fun h => (List.mem_append.mp h).elim (lin_23 w) (fun h => (List.mem_append.mp h).elim (lin_24 w) (lin_25 w))))))))))))))))))))))))
  unfold wsL_law0 at h
  exact (List.mem_append.mp h).elim (fun h => (List.mem_append.mp h).elim (fun h => (List.mem_append.mp h).elim (fun h => (List.mem_append.mp h).elim (fun h => (List.mem_append.mp h).elim (fun h => (List.mem_append.mp h).elim (fun h => (List.mem_append.mp h).elim (fun h => (List.mem_append.mp h).elim hR (lin_X5 w)) (lin_X6 w)) (lin_X0 w)) (lin_X2 w)) (lin_X3 w)) (lin_X4 w)) (lin_X1 w)) (fun h => nomatch h)
theorem wsL_law_x0 : ∀ w ∈ (vx_atS RX5 105 "java/lang/UnsupportedOperationException" ["java/lang/RuntimeException", "java/lang/Exception"]).filter goodWord, w ∈ lw_tbl := by decide +kernel
theorem wsL_law_x1 : ∀ w ∈ (vx_atS RX5 119 "java/lang/IndexOutOfBoundsException" ["java/lang/RuntimeException", "java/lang/Exception"]).filter goodWord, w ∈ lw_tbl := by decide +kernel
theorem wsL_law_in : ∀ w ∈ wsL_law, w ∈ lw_tbl := fun w h => (List.mem_append.mp h).elim (fun h => (List.mem_append.mp h).elim (fun h => wsL_law_in0 w h) (fun h => wsL_law_x0 w h)) (fun h => wsL_law_x1 w h)
theorem lin_nF : ∀ q ∈ nwF, Cond.fieldLinkNest q.1 q.2.1 q.2.2.1 q.2.2.2.1 q.2.2.2.2 "ColumnDesk" ∈ lw_tbl := by decide +kernel
theorem lin_nM : ∀ q ∈ nwM, Cond.methodLinkNest q.1 q.2.1 q.2.2 "ColumnDesk" ∈ lw_tbl := by decide +kernel
theorem lin_xU : ∀ w ∈ XB "java/lang/UnsupportedOperationException", w ∈ lw_tbl := by decide +kernel
theorem lin_xI : ∀ w ∈ XB "java/lang/IndexOutOfBoundsException", w ∈ lw_tbl := by decide +kernel
