set_option maxRecDepth 20000 in
theorem ggL_build_X5_build : GoodIn wsL_build wsX5_build := goodIn_ca (goodIn_r _ [6, 7, 8, 9, 10, 11, 12, 13, 14, 15, 16, 17, 18, 5, 19, 20, 21, 22, 23, 24, 25, 26, 27, 28, 29, 30, 31, 32, 33, 34, 35, 36, 37, 38, 39, 40, 41, 42, 43, 44, 45, 46, 47, 48, 49, 50, 51, 52, 53, 54, 55, 56, 57, 58, 59, 60, 61, 62, 63, 64, 65, 66, 67, 68, 69, 70, 71, 72, 73, 74, 75, 76, 77, 78, 79, 80, 81, 82, 83, 84, 85, 86, 87, 88, 89, 90, 91, 92, 93, 94, 95, 96, 97, 98, 99, 100, 101, 102, 103, 104, 105, 106, 107, 108, 109, 110, 111, 112, 113, 114, 115, 116, 117, 118, 119, 120, 121, 122, 123, 124, 125, 126, 127, 128, 129, 130, 131, 132, 133, 134, 135, 136, 137, 138, 139, 140, 141, 142, 143, 144, 145, 146, 147, 148, 149, 150, 151, 152, 153, 154, 155, 156, 157, 158, 159, 160, 161, 162, 163, 164, 165, 166, 167, 168, 169, 170, 171, 172, 173, 174, 175, 176, 177, 178, 179, 180, 181, 182, 183, 184, 185, 186, 187, 188, 189, 190, 191, 192, 193, 194, 195, 196, 197, 198, 199, 200, 201, 202, 203, 204, 205, 206, 207, 208, 209, 210, 211, 212, 213, 214, 215, 216, 217, 218, 219, 220, 221, 222, 223, 224, 225, 226, 227, 228, 229, 230, 231, 232, 233, 234, 235, 236, 237, 238, 239, 240, 241, 242, 243, 244, 245, 246, 247, 248, 249, 250, 251, 252, 253, 254, 255, 256, 257, 258, 259, 260, 261, 262, 263, 264, 265, 266, 267, 268, 269, 270, 271, 272, 273, 274, 275, 276, 277, 278, 279, 280, 281, 282, 283, 284, 285, 286, 287, 288, 289, 290, 291, 292, 293, 294, 295, 296, 297, 298, 299, 300, 301, 302, 303, 304, 305, 306, 307, 308, 309, 310, 311, 312, 313, 314, 315, 316, 317, 318, 319, 320, 321, 322, 323, 324, 325, 326] rfl (by decide +kernel)) (goodIn_sub (fun _ h => List.mem_cons_of_mem _ (List.mem_append_right _ h)) (by decide +kernel))
set_option maxRecDepth 20000 in
theorem gL_build_X5_build : GoodIn wsL_build (wsV RL 7 RX5 yX5_build wsX5_build) := goodIn_app (goodIn_of _ (by decide +kernel)) ggL_build_X5_build
theorem dL_build_0 : decode cL_build 0 = .ok (.aload_n 1, 1) := by decide +kernel
theorem dL_build_1 : decode cL_build 1 = .ok (.iconst 0, 1) := by decide +kernel
theorem dL_build_2 : decode cL_build 2 = .ok (.aload_n 0, 1) := by decide +kernel
theorem dL_build_3 : decode cL_build 3 = .ok (.invokevirtual 7, 3) := by decide +kernel
theorem dL_build_6 : decode cL_build 6 = .ok (.i2l, 1) := by decide +kernel
theorem dL_build_7 : decode cL_build 7 = .ok (.lastore, 1) := by decide +kernel
theorem dL_build_8 : decode cL_build 8 = .ok (.goto 6, 3) := by decide +kernel
theorem dL_build_11 : decode cL_build 11 = .ok (.astore_n 2, 1) := by decide +kernel
theorem dL_build_12 : decode cL_build 12 = .ok (.iconst 1, 1) := by decide +kernel
theorem dL_build_13 : decode cL_build 13 = .ok (.ireturn, 1) := by decide +kernel
theorem dL_build_14 : decode cL_build 14 = .ok (.iconst 0, 1) := by decide +kernel
theorem dL_build_15 : decode cL_build 15 = .ok (.ireturn, 1) := by decide +kernel
set_option maxRecDepth 20000 in
theorem ggL_about_X5_about : GoodIn wsL_about wsX5_about := goodIn_ca (goodIn_r _ [6, 7, 8, 9, 10, 11, 12, 13, 14, 15, 16, 17, 18, 19, 20, 21, 22, 23, 24, 25, 26, 27, 28, 29, 30, 31, 32, 33, 34, 35, 36, 37, 38, 39, 40, 41, 42, 43, 44, 45, 46, 47, 48] rfl (by decide +kernel)) (goodIn_sub (fun _ h => List.mem_cons_of_mem _ (List.mem_append_right _ h)) (by decide +kernel))
set_option maxRecDepth 20000 in
theorem gL_about_X5_about : GoodIn wsL_about (wsV RL 15 RX5 yX5_about wsX5_about) := goodIn_app (goodIn_of _ (by decide +kernel)) ggL_about_X5_about
theorem dL_about_0 : decode cL_about 0 = .ok (.aload_n 3, 1) := by decide +kernel
theorem dL_about_1 : decode cL_about 1 = .ok (.iconst 0, 1) := by decide +kernel
theorem dL_about_2 : decode cL_about 2 = .ok (.aload_n 0, 1) := by decide +kernel
theorem dL_about_3 : decode cL_about 3 = .ok (.iload_n 1, 1) := by decide +kernel
theorem dL_about_4 : decode cL_about 4 = .ok (.iload_n 2, 1) := by decide +kernel
theorem dL_about_5 : decode cL_about 5 = .ok (.invokevirtual 15, 3) := by decide +kernel
theorem dL_about_8 : decode cL_about 8 = .ok (.i2l, 1) := by decide +kernel
theorem dL_about_9 : decode cL_about 9 = .ok (.lastore, 1) := by decide +kernel
theorem dL_about_10 : decode cL_about 10 = .ok (.goto 7, 3) := by decide +kernel
theorem dL_about_13 : decode cL_about 13 = .ok (.astore 4, 2) := by decide +kernel
theorem dL_about_15 : decode cL_about 15 = .ok (.iconst 1, 1) := by decide +kernel
theorem dL_about_16 : decode cL_about 16 = .ok (.ireturn, 1) := by decide +kernel
theorem dL_about_17 : decode cL_about 17 = .ok (.iconst 0, 1) := by decide +kernel
theorem dL_about_18 : decode cL_about 18 = .ok (.ireturn, 1) := by decide +kernel
set_option maxRecDepth 20000 in
theorem ggL_item_X5_item : GoodIn wsL_item wsX5_item := goodIn_ca (goodIn_r _ [6, 7, 8, 9, 10, 11, 12, 13, 14, 15, 16, 17, 18, 19, 20, 21, 22, 23, 24, 25, 26, 27, 28, 29, 30, 31, 32, 33, 34, 35, 36, 37, 38, 39, 40, 41, 42, 43, 44, 45, 46, 47, 48, 49, 50, 51, 52, 53] rfl (by decide +kernel)) (goodIn_sub (fun _ h => List.mem_cons_of_mem _ (List.mem_append_right _ h)) (by decide +kernel))
set_option maxRecDepth 20000 in
theorem gL_item_X5_item : GoodIn wsL_item (wsV RL 21 RX5 yX5_item wsX5_item) := goodIn_app (goodIn_of _ (by decide +kernel)) ggL_item_X5_item
theorem dL_item_0 : decode cL_item 0 = .ok (.aload 4, 2) := by decide +kernel
theorem dL_item_2 : decode cL_item 2 = .ok (.iconst 0, 1) := by decide +kernel
theorem dL_item_3 : decode cL_item 3 = .ok (.aload_n 0, 1) := by decide +kernel
theorem dL_item_4 : decode cL_item 4 = .ok (.iload_n 1, 1) := by decide +kernel
theorem dL_item_5 : decode cL_item 5 = .ok (.iload_n 2, 1) := by decide +kernel
theorem dL_item_6 : decode cL_item 6 = .ok (.iload_n 3, 1) := by decide +kernel
theorem dL_item_7 : decode cL_item 7 = .ok (.invokevirtual 21, 3) := by decide +kernel
theorem dL_item_10 : decode cL_item 10 = .ok (.i2l, 1) := by decide +kernel
theorem dL_item_11 : decode cL_item 11 = .ok (.lastore, 1) := by decide +kernel
theorem dL_item_12 : decode cL_item 12 = .ok (.goto 7, 3) := by decide +kernel
theorem dL_item_15 : decode cL_item 15 = .ok (.astore 5, 2) := by decide +kernel
theorem dL_item_17 : decode cL_item 17 = .ok (.iconst 1, 1) := by decide +kernel
theorem dL_item_18 : decode cL_item 18 = .ok (.ireturn, 1) := by decide +kernel
theorem dL_item_19 : decode cL_item 19 = .ok (.iconst 0, 1) := by decide +kernel
theorem dL_item_20 : decode cL_item 20 = .ok (.ireturn, 1) := by decide +kernel
