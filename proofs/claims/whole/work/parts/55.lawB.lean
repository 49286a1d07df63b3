set_option maxRecDepth 20000 in
theorem ggL_law_X5_init : GoodIn wsL_law wsX5_init := goodIn_r _ [9, 10, 11, 12, 13, 14, 15, 16, 17, 18, 19, 20, 21, 22, 23, 24, 25, 26, 27, 28, 29, 30, 31, 32, 33, 34, 35, 36, 37, 38, 39, 40, 41, 42, 43, 44, 6, 45, 46, 47, 48, 49, 50, 51, 52, 53, 54, 55, 56, 57, 58, 59, 60, 61, 62, 63, 64, 65, 66, 67, 68, 69, 70, 71, 72, 73, 74, 75, 76, 77, 78, 79, 80, 81, 621, 622, 578, 579, 580, 581, 582, 583, 584, 585, 586, 587, 588, 623, 624, 625, 626, 627, 628, 629, 630, 631, 632, 633, 634, 635, 636, 637, 638] rfl (by decide +kernel)
set_option maxRecDepth 20000 in
theorem gL_law_X5_init : GoodIn wsL_law (wsX5_init) := ggL_law_X5_init
set_option maxRecDepth 20000 in
theorem ggL_law_X6_init : GoodIn wsL_law wsX6_init := goodIn_r _ [84, 85, 11, 12, 34, 86, 87, 88, 89, 90, 91, 92, 6, 93, 94, 95, 96, 97, 98, 99, 589, 590, 591, 592, 593, 594, 595, 596, 597, 598, 599, 600, 601, 602, 603, 604, 605, 606, 607, 608, 609, 610, 611, 612, 613, 614, 615, 616, 617, 618, 619, 620] rfl (by decide +kernel)
set_option maxRecDepth 20000 in
theorem gL_law_X6_init : GoodIn wsL_law (wsX6_init) := ggL_law_X6_init
set_option maxRecDepth 20000 in
theorem ggL_law_X5_page : GoodIn wsL_law wsX5_page := goodIn_r _ [103, 104, 105, 106, 107, 2, 108, 109, 110, 578, 579, 580, 581, 582, 583, 584, 585, 586, 587, 588] rfl (by decide +kernel)
set_option maxRecDepth 20000 in
theorem gL_law_X5_page : GoodIn wsL_law (wsV RL 29 RX5 yX5_page wsX5_page) := goodIn_app (goodIn_of _ (by decide +kernel)) ggL_law_X5_page
set_option maxRecDepth 20000 in
theorem ggL_law_X6_page : GoodIn wsL_law wsX6_page := goodIn_r _ [114, 115, 116, 117, 118, 119, 5, 120, 121, 122, 589, 590, 591, 592, 593, 594, 595, 596, 597, 598, 599, 600, 601, 602, 603, 604, 605, 606, 607, 608, 609, 610, 611, 612, 613, 614, 615, 616, 617, 618, 619, 620] rfl (by decide +kernel)
set_option maxRecDepth 20000 in
theorem gL_law_X6_page : GoodIn wsL_law (wsV RL 33 RX6 yX6_page wsX6_page) := goodIn_app (goodIn_of _ (by decide +kernel)) ggL_law_X6_page
set_option maxRecDepth 20000 in
theorem ggL_law_X5_top : GoodIn wsL_law wsX5_top := goodIn_r _ [126, 127, 128, 129, 130, 131, 132, 2, 133, 106, 107, 108, 109, 110, 578, 579, 580, 581, 582, 583, 584, 585, 586, 587, 588] rfl (by decide +kernel)
set_option maxRecDepth 20000 in
theorem gL_law_X5_top : GoodIn wsL_law (wsV RL 34 RX5 yX5_top wsX5_top) := goodIn_app (goodIn_of _ (by decide +kernel)) ggL_law_X5_top
set_option maxRecDepth 20000 in
theorem ggL_law_X6_top : GoodIn wsL_law wsX6_top := goodIn_r _ [137, 115, 138, 139, 140, 141, 142, 143, 5, 144, 118, 119, 120, 121, 122, 589, 590, 591, 592, 593, 594, 595, 596, 597, 598, 599, 600, 601, 602, 603, 604, 605, 606, 607, 608, 609, 610, 611, 612, 613, 614, 615, 616, 617, 618, 619, 620] rfl (by decide +kernel)
set_option maxRecDepth 20000 in
theorem gL_law_X6_top : GoodIn wsL_law (wsV RL 38 RX6 yX6_top wsX6_top) := goodIn_app (goodIn_of _ (by decide +kernel)) ggL_law_X6_top
set_option maxRecDepth 20000 in
theorem ggL_law_X5_box : GoodIn wsL_law wsX5_box := goodIn_r _ [148, 149, 150, 151, 2, 152, 16, 106, 107, 108, 109, 110, 153, 154, 155, 156, 24, 157, 158, 159, 160, 20, 29, 161, 162, 163, 164, 165, 166, 167, 15, 168, 55, 169, 170, 171, 23, 172, 173, 174, 175, 176, 177, 50, 178, 179, 180, 181, 182, 183, 51, 52, 53, 54, 35, 56, 57, 58, 59, 60, 61, 62, 63, 64, 65, 66, 67, 68, 69, 70, 71, 72, 73, 74, 75, 76, 34, 77, 78, 79, 80, 81, 184, 185, 186, 187, 188, 189, 190, 191, 192, 193, 194, 195, 578, 579, 580, 581, 582, 583, 584, 585, 586, 587, 588, 623, 624, 625, 626, 627, 628, 621, 622, 629, 630, 631, 632, 639, 640, 641, 642] rfl (by decide +kernel)
set_option maxRecDepth 20000 in
theorem gL_law_X5_box : GoodIn wsL_law (wsV RL 39 RX5 yX5_box wsX5_box) := goodIn_app (goodIn_of _ (by decide +kernel)) ggL_law_X5_box
set_option maxRecDepth 20000 in
theorem ggL_law_X6_box : GoodIn wsL_law wsX6_box := goodIn_r _ [199, 118, 119, 5, 120, 121, 122, 200, 201, 202, 203, 115, 204, 205, 206, 207, 208, 209, 210, 94, 211, 212, 213, 214, 86, 87, 88, 89, 90, 91, 92, 93, 589, 590, 591, 592, 593, 594, 595, 596, 597, 598, 599, 600, 601, 602, 603, 604, 605, 606, 607, 608, 609, 610, 611, 612, 613, 614, 615, 616, 617, 618, 619, 620] rfl (by decide +kernel)
set_option maxRecDepth 20000 in
theorem gL_law_X6_box : GoodIn wsL_law (wsV RL 42 RX6 yX6_box wsX6_box) := goodIn_app (goodIn_of _ (by decide +kernel)) ggL_law_X6_box
set_option maxRecDepth 20000 in
theorem ggL_law_X5_rule : GoodIn wsL_law wsX5_rule := goodIn_r _ [218, 149, 150, 151, 2, 152, 16, 106, 107, 108, 109, 110, 153, 154, 155, 156, 24, 157, 158, 159, 160, 20, 29, 161, 162, 163, 164, 165, 166, 167, 15, 168, 55, 169, 170, 171, 23, 172, 173, 174, 175, 176, 177, 50, 178, 179, 180, 181, 182, 183, 51, 52, 53, 54, 35, 56, 57, 58, 59, 60, 61, 62, 63, 64, 65, 66, 67, 68, 69, 70, 71, 72, 73, 74, 75, 76, 34, 77, 78, 79, 80, 81, 184, 185, 186, 187, 188, 189, 190, 191, 192, 193, 194, 195, 578, 579, 580, 581, 582, 583, 584, 585, 586, 587, 588, 623, 624, 625, 626, 627, 628, 621, 622, 629, 630, 631, 632, 639, 640, 641, 642] rfl (by decide +kernel)
set_option maxRecDepth 20000 in
theorem gL_law_X5_rule : GoodIn wsL_law (wsV RL 43 RX5 yX5_rule wsX5_rule) := goodIn_app (goodIn_of _ (by decide +kernel)) ggL_law_X5_rule
set_option maxRecDepth 20000 in
theorem ggL_law_X6_rule : GoodIn wsL_law wsX6_rule := goodIn_r _ [222, 118, 119, 5, 120, 121, 122, 200, 201, 202, 203, 115, 204, 205, 206, 207, 208, 209, 210, 94, 211, 212, 213, 214, 86, 87, 88, 89, 90, 91, 92, 93, 589, 590, 591, 592, 593, 594, 595, 596, 597, 598, 599, 600, 601, 602, 603, 604, 605, 606, 607, 608, 609, 610, 611, 612, 613, 614, 615, 616, 617, 618, 619, 620] rfl (by decide +kernel)
set_option maxRecDepth 20000 in
theorem gL_law_X6_rule : GoodIn wsL_law (wsV RL 47 RX6 yX6_rule wsX6_rule) := goodIn_app (goodIn_of _ (by decide +kernel)) ggL_law_X6_rule
set_option maxRecDepth 20000 in
theorem ggL_law_X5_glue : GoodIn wsL_law wsX5_glue := goodIn_r _ [226, 16, 131, 132, 2, 133, 106, 107, 108, 109, 110, 153, 154, 155, 156, 24, 157, 158, 159, 160, 20, 29, 161, 162, 163, 164, 165, 166, 167, 15, 168, 55, 169, 170, 171, 23, 172, 173, 174, 175, 176, 177, 50, 178, 179, 180, 181, 182, 183, 51, 52, 53, 54, 35, 56, 57, 58, 59, 60, 61, 62, 63, 64, 65, 66, 67, 68, 69, 70, 71, 72, 73, 74, 75, 76, 34, 77, 78, 79, 80, 81, 227, 228, 229, 230, 188, 189, 190, 191, 192, 193, 194, 195, 578, 579, 580, 581, 582, 583, 584, 585, 586, 587, 588, 623, 624, 625, 626, 627, 628, 621, 622, 629, 630, 631, 632, 639, 640, 641, 642] rfl (by decide +kernel)
set_option maxRecDepth 20000 in
theorem gL_law_X5_glue : GoodIn wsL_law (wsV RL 48 RX5 yX5_glue wsX5_glue) := goodIn_app (goodIn_of _ (by decide +kernel)) ggL_law_X5_glue
set_option maxRecDepth 20000 in
theorem ggL_law_X6_glue : GoodIn wsL_law wsX6_glue := goodIn_r _ [234, 142, 143, 5, 144, 118, 119, 120, 121, 122, 200, 201, 202, 203, 115, 204, 205, 206, 207, 208, 209, 210, 94, 211, 212, 213, 214, 86, 87, 88, 89, 90, 91, 92, 93, 589, 590, 591, 592, 593, 594, 595, 596, 597, 598, 599, 600, 601, 602, 603, 604, 605, 606, 607, 608, 609, 610, 611, 612, 613, 614, 615, 616, 617, 618, 619, 620] rfl (by decide +kernel)
set_option maxRecDepth 20000 in
theorem gL_law_X6_glue : GoodIn wsL_law (wsV RL 51 RX6 yX6_glue wsX6_glue) := goodIn_app (goodIn_of _ (by decide +kernel)) ggL_law_X6_glue
set_option maxRecDepth 20000 in
theorem ggL_law_X5_kern : GoodIn wsL_law wsX5_kern := goodIn_r _ [238, 16, 106, 107, 2, 108, 109, 110, 153, 154, 155, 156, 24, 157, 158, 159, 160, 20, 29, 161, 162, 163, 164, 165, 166, 167, 15, 168, 55, 169, 170, 171, 23, 172, 173, 174, 175, 176, 177, 50, 178, 179, 180, 181, 182, 183, 51, 52, 53, 54, 35, 56, 57, 58, 59, 60, 61, 62, 63, 64, 65, 66, 67, 68, 69, 70, 71, 72, 73, 74, 75, 76, 34, 77, 78, 79, 80, 81, 239, 189, 190, 191, 192, 193, 194, 195, 578, 579, 580, 581, 582, 583, 584, 585, 586, 587, 588, 623, 624, 625, 626, 627, 628, 621, 622, 629, 630, 631, 632, 639, 640, 641, 642] rfl (by decide +kernel)
set_option maxRecDepth 20000 in
theorem gL_law_X5_kern : GoodIn wsL_law (wsV RL 52 RX5 yX5_kern wsX5_kern) := goodIn_app (goodIn_of _ (by decide +kernel)) ggL_law_X5_kern
set_option maxRecDepth 20000 in
theorem ggL_law_X6_kern : GoodIn wsL_law wsX6_kern := goodIn_r _ [243, 118, 119, 5, 120, 121, 122, 200, 201, 202, 203, 115, 204, 205, 206, 207, 208, 209, 210, 94, 211, 212, 213, 214, 86, 87, 88, 89, 90, 91, 92, 93, 589, 590, 591, 592, 593, 594, 595, 596, 597, 598, 599, 600, 601, 602, 603, 604, 605, 606, 607, 608, 609, 610, 611, 612, 613, 614, 615, 616, 617, 618, 619, 620] rfl (by decide +kernel)
set_option maxRecDepth 20000 in
theorem gL_law_X6_kern : GoodIn wsL_law (wsV RL 56 RX6 yX6_kern wsX6_kern) := goodIn_app (goodIn_of _ (by decide +kernel)) ggL_law_X6_kern
set_option maxRecDepth 20000 in
theorem ggL_law_X5_penalty : GoodIn wsL_law wsX5_penalty := goodIn_r _ [247, 16, 153, 154, 155, 2, 156, 24, 157, 158, 159, 160, 20, 29, 161, 162, 163, 164, 165, 166, 167, 15, 168, 55, 169, 170, 171, 23, 172, 173, 174, 175, 176, 177, 50, 178, 179, 180, 181, 182, 183, 51, 52, 53, 54, 35, 56, 57, 58, 59, 60, 61, 62, 63, 64, 65, 66, 67, 68, 69, 70, 71, 72, 73, 74, 75, 76, 34, 77, 78, 79, 80, 81, 239, 189, 190, 191, 192, 193, 194, 195, 578, 579, 580, 581, 582, 583, 584, 585, 586, 587, 588, 623, 624, 625, 626, 627, 628, 621, 622, 629, 630, 631, 632, 639, 640, 641, 642] rfl (by decide +kernel)
set_option maxRecDepth 20000 in
theorem gL_law_X5_penalty : GoodIn wsL_law (wsV RL 57 RX5 yX5_penalty wsX5_penalty) := goodIn_app (goodIn_of _ (by decide +kernel)) ggL_law_X5_penalty
set_option maxRecDepth 20000 in
theorem ggL_law_X6_penalty : GoodIn wsL_law wsX6_penalty := goodIn_r _ [251, 200, 201, 202, 5, 203, 115, 204, 205, 206, 207, 208, 209, 210, 94, 211, 212, 213, 214, 86, 87, 88, 89, 90, 91, 92, 93, 589, 590, 591, 592, 593, 594, 595, 596, 597, 598, 599, 600, 601, 602, 603, 604, 605, 606, 607, 608, 609, 610, 611, 612, 613, 614, 615, 616, 617, 618, 619, 620] rfl (by decide +kernel)
set_option maxRecDepth 20000 in
theorem gL_law_X6_penalty : GoodIn wsL_law (wsV RL 60 RX6 yX6_penalty wsX6_penalty) := goodIn_app (goodIn_of _ (by decide +kernel)) ggL_law_X6_penalty
set_option maxRecDepth 20000 in
theorem ggL_law_L_build : GoodIn wsL_law wsL_build := goodIn_ca (goodIn_r _ [255, 256, 257, 258, 259, 2, 260, 261, 262, 16, 165, 166, 167, 15, 168, 55, 263, 264, 265, 266, 29, 20, 161, 162, 163, 164, 267, 268, 269, 270, 35, 271, 272, 273, 274, 275, 276, 277, 127, 278, 61, 62, 63, 128, 129, 130, 104, 105, 227, 228, 229, 230, 188, 189, 190, 191, 192, 193, 194, 195, 279, 280, 281, 19, 282, 283, 284, 285, 40, 286, 287, 288, 27, 289, 45, 290, 291, 292, 293, 294, 295, 296, 69, 297, 298, 299, 300, 301, 302, 303, 304, 305, 306, 307, 308, 309, 310, 311, 312, 313, 314, 315, 316, 317, 318, 319, 320, 321, 322, 323, 324, 157, 158, 159, 160, 325, 326, 327, 328, 329, 330, 41, 331, 332, 333, 334, 335, 336, 337, 338, 339, 340, 341, 342, 343, 344, 345, 346, 347, 348, 349, 350, 351, 352, 353, 354, 355, 356, 357, 358, 359, 360, 361, 362, 363, 364, 365, 366, 28, 24, 367, 368, 369, 370, 371, 372, 107, 108, 109, 110, 373, 374, 375, 376, 23, 377, 178, 173, 378, 65, 66, 379, 50, 49, 380, 381, 179, 180, 181, 182, 382, 383, 384, 11, 12, 385, 14, 386, 387, 31, 32, 33, 34, 388, 389, 390, 391, 392, 393, 394, 395, 396, 397, 398, 399, 79, 80, 81, 56, 57, 58, 59, 60, 64, 67, 68, 70, 71, 72, 73, 74, 75, 76, 77, 78, 400, 401, 402, 403, 404, 405, 406, 407, 408, 409, 410, 411, 412, 413, 414, 415, 416, 417, 418, 419, 420, 421, 422, 423, 424, 425, 426, 427, 428, 429, 430, 431, 432, 433, 434, 435, 436, 437, 438, 439, 440, 441, 442, 443, 444, 445, 446, 51, 52, 53, 54, 447, 448, 449, 450, 451, 452, 453, 454, 578, 579, 580, 581, 582, 583, 584, 585, 586, 587, 588, 621, 622, 623, 624, 625, 626, 627, 628, 633, 634, 635, 636, 637, 638, 629, 630, 631, 632, 639, 640, 641, 642] rfl (by decide +kernel)) (goodIn_sub (fun _ h => List.mem_append_left _ (List.mem_append_right _ h)) (by decide +kernel))
set_option maxRecDepth 20000 in
theorem gL_law_L_build : GoodIn wsL_law (va_wsS RL 61 yL_build wsL_build) := goodIn_app (goodIn_of _ (by decide +kernel)) ggL_law_L_build
set_option maxRecDepth 20000 in
theorem ggL_law_X6_build : GoodIn wsL_law wsX6_build := goodIn_r _ [458, 115, 459, 204, 86, 209, 210, 98, 460, 461, 462, 5, 463, 464, 465, 466, 467, 468, 469, 470, 471, 87, 88, 89, 90, 91, 92, 93, 211, 212, 213, 214, 472, 473, 474, 475, 116, 476, 117, 477, 138, 139, 140, 141, 478, 479, 480, 481, 482, 483, 484, 485, 486, 487, 488, 489, 490, 491, 99, 492, 493, 494, 495, 496, 497, 498, 499, 500, 501, 502, 503, 504, 505, 506, 94, 95, 96, 97, 507, 508, 509, 510, 511, 512, 513, 514, 515, 516, 517, 518, 519, 520, 521, 522, 523, 205, 206, 207, 208, 524, 525, 526, 527, 589, 590, 591, 592, 593, 594, 595, 596, 597, 598, 599, 600, 601, 602, 603, 604, 605, 606, 607, 608, 609, 610, 611, 612, 613, 614, 615, 616, 617, 618, 619, 620] rfl (by decide +kernel)
set_option maxRecDepth 20000 in
theorem gL_law_X6_build : GoodIn wsL_law (wsV RL 66 RX6 yX6_build wsX6_build) := goodIn_app (goodIn_of _ (by decide +kernel)) ggL_law_X6_build
set_option maxRecDepth 20000 in
theorem ggL_law_X6_thrown : GoodIn wsL_law wsX6_thrown := goodIn_r _ [531, 115, 589, 590, 591, 592, 593, 594, 595, 596, 597, 598, 599, 600, 601, 602, 603, 604, 605, 606, 607, 608, 609, 610, 611, 612, 613, 614, 615, 616, 617, 618, 619, 620] rfl (by decide +kernel)
set_option maxRecDepth 20000 in
theorem gL_law_X6_thrown : GoodIn wsL_law (wsV RL 67 RX6 yX6_thrown wsX6_thrown) := goodIn_app (goodIn_of _ (by decide +kernel)) ggL_law_X6_thrown
set_option maxRecDepth 20000 in
theorem ggL_law_L_about : GoodIn wsL_law wsL_about := goodIn_ca (goodIn_r _ [534, 535, 536, 537, 538, 2, 539, 540, 541, 24, 542, 175, 176, 23, 177, 173, 50, 178, 179, 180, 181, 182, 165, 166, 167, 15, 168, 55, 578, 579, 580, 581, 582, 583, 584, 585, 586, 587, 588, 639, 640, 641, 642, 629, 630, 631, 632, 621, 622] rfl (by decide +kernel)) (goodIn_sub (fun _ h => List.mem_append_right _ h) (by decide +kernel))
set_option maxRecDepth 20000 in
theorem gL_law_L_about : GoodIn wsL_law (va_wsS RL 70 yL_about wsL_about) := goodIn_app (goodIn_of _ (by decide +kernel)) ggL_law_L_about
set_option maxRecDepth 20000 in
theorem ggL_law_X6_about : GoodIn wsL_law wsX6_about := goodIn_r _ [546, 210, 115, 95, 96, 97, 94, 524, 525, 526, 5, 527, 589, 590, 591, 592, 593, 594, 595, 596, 597, 598, 599, 600, 601, 602, 603, 604, 605, 606, 607, 608, 609, 610, 611, 612, 613, 614, 615, 616, 617, 618, 619, 620] rfl (by decide +kernel)
set_option maxRecDepth 20000 in
theorem gL_law_X6_about : GoodIn wsL_law (wsV RL 73 RX6 yX6_about wsX6_about) := goodIn_app (goodIn_of _ (by decide +kernel)) ggL_law_X6_about
set_option maxRecDepth 20000 in
theorem ggL_law_L_item : GoodIn wsL_law wsL_item := goodIn_ca (goodIn_r _ [549, 535, 550, 551, 552, 2, 553, 540, 541, 24, 542, 175, 176, 23, 177, 173, 50, 178, 179, 180, 181, 182, 165, 166, 167, 15, 168, 55, 267, 268, 269, 270, 35, 578, 579, 580, 581, 582, 583, 584, 585, 586, 587, 588, 639, 640, 641, 642, 629, 630, 631, 632, 621, 622] rfl (by decide +kernel)) (goodIn_sub (fun _ h => List.mem_append_right _ h) (by decide +kernel))
set_option maxRecDepth 20000 in
theorem gL_law_L_item : GoodIn wsL_law (va_wsS RL 74 yL_item wsL_item) := goodIn_app (goodIn_of _ (by decide +kernel)) ggL_law_L_item
set_option maxRecDepth 20000 in
theorem ggL_law_X6_item : GoodIn wsL_law wsX6_item := goodIn_r _ [557, 210, 94, 115, 87, 93, 86, 558, 559, 88, 89, 524, 525, 526, 5, 527, 589, 590, 591, 592, 593, 594, 595, 596, 597, 598, 599, 600, 601, 602, 603, 604, 605, 606, 607, 608, 609, 610, 611, 612, 613, 614, 615, 616, 617, 618, 619, 620] rfl (by decide +kernel)
set_option maxRecDepth 20000 in
theorem gL_law_X6_item : GoodIn wsL_law (wsV RL 77 RX6 yX6_item wsX6_item) := goodIn_app (goodIn_of _ (by decide +kernel)) ggL_law_X6_item
set_option maxRecDepth 20000 in
theorem ggL_law_X5_count : GoodIn wsL_law wsX5_count := goodIn_r _ [563, 24, 20, 161, 162, 163, 2, 164, 16, 29, 165, 166, 167, 15, 168, 55, 157, 158, 159, 160, 367, 360, 361, 19, 362, 41, 578, 579, 580, 581, 582, 583, 584, 585, 586, 587, 588, 629, 630, 631, 632, 621, 622, 623, 624, 625, 626, 627, 628] rfl (by decide +kernel)
set_option maxRecDepth 20000 in
theorem gL_law_X5_count : GoodIn wsL_law (wsV RL 78 RX5 yX5_count wsX5_count) := goodIn_app (goodIn_of _ (by decide +kernel)) ggL_law_X5_count
set_option maxRecDepth 20000 in
theorem ggL_law_X6_count : GoodIn wsL_law wsX6_count := goodIn_r _ [567, 115, 459, 204, 209, 98, 589, 590, 591, 592, 593, 594, 595, 596, 597, 598, 599, 600, 601, 602, 603, 604, 605, 606, 607, 608, 609, 610, 611, 612, 613, 614, 615, 616, 617, 618, 619, 620] rfl (by decide +kernel)
set_option maxRecDepth 20000 in
theorem gL_law_X6_count : GoodIn wsL_law (wsV RL 82 RX6 yX6_count wsX6_count) := goodIn_app (goodIn_of _ (by decide +kernel)) ggL_law_X6_count
set_option maxRecDepth 20000 in
theorem ggL_law_X5_sum : GoodIn wsL_law wsX5_sum := goodIn_r _ [571, 20, 572, 336, 337, 27, 338, 291, 292, 573, 351, 352, 353, 45, 367, 360, 361, 19, 362, 41, 578, 579, 580, 581, 582, 583, 584, 585, 586, 587, 588, 623, 624, 625, 626, 627, 628, 633, 634, 635, 636, 637, 638] rfl (by decide +kernel)
set_option maxRecDepth 20000 in
theorem gL_law_X5_sum : GoodIn wsL_law (wsV RL 83 RX5 yX5_sum wsX5_sum) := goodIn_app (goodIn_of _ (by decide +kernel)) ggL_law_X5_sum
set_option maxRecDepth 20000 in
theorem ggL_law_X6_sum : GoodIn wsL_law wsX6_sum := goodIn_r _ [577, 115, 209, 477, 488, 489, 491, 99, 98, 483, 484, 485, 486, 5, 487, 490, 88, 89, 86, 87, 91, 90, 92, 460, 461, 462, 463, 589, 590, 591, 592, 593, 594, 595, 596, 597, 598, 599, 600, 601, 602, 603, 604, 605, 606, 607, 608, 609, 610, 611, 612, 613, 614, 615, 616, 617, 618, 619, 620] rfl (by decide +kernel)
set_option maxRecDepth 20000 in
theorem gL_law_X6_sum : GoodIn wsL_law (wsV RL 87 RX6 yX6_sum wsX6_sum) := goodIn_app (goodIn_of _ (by decide +kernel)) ggL_law_X6_sum
