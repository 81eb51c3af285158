set_option maxRecDepth 20000 in
theorem ggL_law_X6_init : GoodIn wsL_law wsX6_init := goodIn_r _ [9, 10, 11, 12, 13, 14, 15, 16, 17, 18, 19, 20, 21, 22, 23, 24, 25, 26, 27, 28, 29, 30, 31, 32, 33, 34, 35, 36, 37, 38, 39, 40, 41, 42, 43, 44, 45, 46, 47, 48, 49, 50, 51, 52, 53, 54, 55, 56, 57, 58, 59, 60, 61, 62, 63, 64, 65, 66, 67, 68, 69, 70, 71, 72, 73, 74, 75, 76, 77, 78, 79, 80, 81, 82, 83, 84, 85, 86, 87, 88, 89, 90, 91, 92, 93, 94, 95, 96, 97, 98, 99, 100, 101, 102, 103, 104, 105, 106, 107, 108, 109, 604, 605, 606, 574, 575, 576, 577, 578, 607, 608, 609, 610, 611, 612, 613, 614, 615, 616, 617, 618, 619, 620, 621, 622, 623, 624, 625, 626, 627, 628, 629, 630] (by decide +kernel) (by decide +kernel)
set_option maxRecDepth 20000 in
theorem gL_law_X6_init : GoodIn wsL_law (wsX6_init) := ggL_law_X6_init
set_option maxRecDepth 20000 in
theorem ggL_law_X7_init : GoodIn wsL_law wsX7_init := goodIn_r _ [112, 113, 11, 12, 48, 114, 115, 116, 117, 118, 119, 120, 121, 122, 123, 124, 125, 126, 127, 128, 129, 130, 131, 132, 133, 134, 135, 136, 137, 5, 138, 579, 580, 581, 582, 583, 584, 585, 586, 587, 588, 589, 590, 591, 592, 593, 594, 595, 596, 597, 598, 599, 600, 601, 602, 603] (by decide +kernel) (by decide +kernel)
set_option maxRecDepth 20000 in
theorem gL_law_X7_init : GoodIn wsL_law (wsX7_init) := ggL_law_X7_init
set_option maxRecDepth 20000 in
theorem ggL_law_L_setRank : GoodIn wsL_law wsL_setRank := goodIn_ca (goodIn_ca (goodIn_ca (goodIn_r _ [142, 143, 144, 145, 146, 147, 148, 2, 149, 16, 150, 151, 152, 153, 154, 155, 156, 157, 158, 159, 160, 161, 162, 163, 164, 165, 20, 166, 167, 168, 36, 169, 49, 170, 55, 56, 57, 574, 575, 576, 577, 578, 604, 605, 606, 607, 608, 609, 610, 611, 612, 613, 627] (by decide +kernel) (by decide +kernel)) (goodIn_sub (fun _ h => List.mem_append_left _ (List.mem_append_left _ (List.mem_append_right _ h))) (by decide +kernel))) (goodIn_sub (fun _ h => List.mem_append_left _ (List.mem_append_right _ h)) (by decide +kernel))) (goodIn_sub (fun _ h => List.mem_append_right _ h) (by decide +kernel))
set_option maxRecDepth 20000 in
theorem gL_law_L_setRank : GoodIn wsL_law (va_wsS RL 77 yL_setRank wsL_setRank) := goodIn_app (goodIn_of _ (by decide +kernel)) ggL_law_L_setRank
set_option maxRecDepth 20000 in
theorem ggL_law_X7_setRank : GoodIn wsL_law wsX7_setRank := goodIn_r _ [174, 175, 176, 114, 177, 178, 5, 179, 579, 580, 581, 582, 583, 584, 585, 586, 587, 588, 589, 590, 591, 592, 593, 594, 595, 596, 597, 598, 599, 600, 601, 602, 603] (by decide +kernel) (by decide +kernel)
set_option maxRecDepth 20000 in
theorem gL_law_X7_setRank : GoodIn wsL_law (wsV RL 82 RX7 yX7_setRank wsX7_setRank) := goodIn_app (goodIn_of _ (by decide +kernel)) ggL_law_X7_setRank
set_option maxRecDepth 20000 in
theorem ggL_law_X7_thrown : GoodIn wsL_law wsX7_thrown := goodIn_r _ [183, 176, 579, 580, 581, 582, 583, 584, 585, 586, 587, 588, 589, 590, 591, 592, 593, 594, 595, 596, 597, 598, 599, 600, 601, 602, 603] (by decide +kernel) (by decide +kernel)
set_option maxRecDepth 20000 in
theorem gL_law_X7_thrown : GoodIn wsL_law (wsV RL 83 RX7 yX7_thrown wsX7_thrown) := goodIn_app (goodIn_of _ (by decide +kernel)) ggL_law_X7_thrown
set_option maxRecDepth 20000 in
theorem ggL_law_L_setRule : GoodIn wsL_law wsL_setRule := goodIn_ca (goodIn_ca (goodIn_ca (goodIn_r _ [186, 143, 144, 145, 187, 188, 189, 2, 190, 16, 150, 151, 152, 153, 154, 155, 156, 157, 158, 159, 160, 161, 162, 163, 164, 165, 20, 166, 167, 168, 36, 169, 49, 170, 55, 56, 57, 574, 575, 576, 577, 578, 604, 605, 606, 607, 608, 609, 610, 611, 612, 613, 627] (by decide +kernel) (by decide +kernel)) (goodIn_sub (fun _ h => List.mem_append_left _ (List.mem_append_left _ (List.mem_append_right _ h))) (by decide +kernel))) (goodIn_sub (fun _ h => List.mem_append_left _ (List.mem_append_right _ h)) (by decide +kernel))) (goodIn_sub (fun _ h => List.mem_append_right _ h) (by decide +kernel))
set_option maxRecDepth 20000 in
theorem gL_law_L_setRule : GoodIn wsL_law (va_wsS RL 86 yL_setRule wsL_setRule) := goodIn_app (goodIn_of _ (by decide +kernel)) ggL_law_L_setRule
set_option maxRecDepth 20000 in
theorem ggL_law_X7_setRule : GoodIn wsL_law wsX7_setRule := goodIn_r _ [194, 175, 176, 115, 177, 178, 5, 179, 579, 580, 581, 582, 583, 584, 585, 586, 587, 588, 589, 590, 591, 592, 593, 594, 595, 596, 597, 598, 599, 600, 601, 602, 603] (by decide +kernel) (by decide +kernel)
set_option maxRecDepth 20000 in
theorem gL_law_X7_setRule : GoodIn wsL_law (wsV RL 88 RX7 yX7_setRule wsX7_setRule) := goodIn_app (goodIn_of _ (by decide +kernel)) ggL_law_X7_setRule
set_option maxRecDepth 20000 in
theorem ggL_law_L_setOrder : GoodIn wsL_law wsL_setOrder := goodIn_ca (goodIn_ca (goodIn_r _ [197, 144, 145, 198, 199, 200, 2, 201, 158, 159, 16, 155, 156, 157, 160, 161, 162, 163, 164, 165, 20, 170, 55, 56, 36, 57, 49, 574, 575, 576, 577, 578, 604, 605, 606, 607, 608, 609, 610, 611, 612, 613, 627] (by decide +kernel) (by decide +kernel)) (goodIn_sub (fun _ h => List.mem_append_left _ (List.mem_append_right _ h)) (by decide +kernel))) (goodIn_sub (fun _ h => List.mem_append_right _ h) (by decide +kernel))
set_option maxRecDepth 20000 in
theorem gL_law_L_setOrder : GoodIn wsL_law (va_wsS RL 89 yL_setOrder wsL_setOrder) := goodIn_app (goodIn_of _ (by decide +kernel)) ggL_law_L_setOrder
set_option maxRecDepth 20000 in
theorem ggL_law_X7_setOrder : GoodIn wsL_law wsX7_setOrder := goodIn_r _ [205, 175, 176, 116, 177, 178, 5, 179, 579, 580, 581, 582, 583, 584, 585, 586, 587, 588, 589, 590, 591, 592, 593, 594, 595, 596, 597, 598, 599, 600, 601, 602, 603] (by decide +kernel) (by decide +kernel)
set_option maxRecDepth 20000 in
theorem gL_law_X7_setOrder : GoodIn wsL_law (wsV RL 92 RX7 yX7_setOrder wsX7_setOrder) := goodIn_app (goodIn_of _ (by decide +kernel)) ggL_law_X7_setOrder
set_option maxRecDepth 20000 in
theorem ggL_law_L_beginBatch : GoodIn wsL_law wsL_beginBatch := goodIn_ca (goodIn_r _ [208, 145, 209, 210, 211, 2, 212, 164, 165, 20, 213, 214, 215, 19, 216, 72, 574, 575, 576, 577, 578, 607, 608, 609, 610, 611, 612, 613] (by decide +kernel) (by decide +kernel)) (goodIn_sub (fun _ h => List.mem_append_right _ h) (by decide +kernel))
set_option maxRecDepth 20000 in
theorem gL_law_L_beginBatch : GoodIn wsL_law (va_wsS RL 93 yL_beginBatch wsL_beginBatch) := goodIn_app (goodIn_of _ (by decide +kernel)) ggL_law_L_beginBatch
set_option maxRecDepth 20000 in
theorem ggL_law_X7_beginBatch : GoodIn wsL_law wsX7_beginBatch := goodIn_r _ [220, 221, 176, 120, 579, 580, 581, 582, 583, 584, 585, 586, 587, 588, 589, 590, 591, 592, 593, 594, 595, 596, 597, 598, 599, 600, 601, 602, 603] (by decide +kernel) (by decide +kernel)
set_option maxRecDepth 20000 in
theorem gL_law_X7_beginBatch : GoodIn wsL_law (wsV RL 96 RX7 yX7_beginBatch wsX7_beginBatch) := goodIn_app (goodIn_of _ (by decide +kernel)) ggL_law_X7_beginBatch
set_option maxRecDepth 20000 in
theorem ggL_law_L_key : GoodIn wsL_law wsL_key := goodIn_ca (goodIn_ca (goodIn_r _ [224, 143, 144, 225, 226, 227, 2, 228, 20, 150, 151, 152, 153, 154, 155, 156, 157, 158, 159, 229, 230, 231, 64, 232, 77, 78, 80, 233, 234, 235, 236, 574, 575, 576, 577, 578, 607, 608, 609, 610, 611, 612, 613, 628, 629, 630] (by decide +kernel) (by decide +kernel)) (goodIn_sub (fun _ h => List.mem_append_left _ (List.mem_append_left _ (List.mem_append_right _ h))) (by decide +kernel))) (goodIn_sub (fun _ h => List.mem_append_left _ (List.mem_append_right _ h)) (by decide +kernel))
set_option maxRecDepth 20000 in
theorem gL_law_L_key : GoodIn wsL_law (va_wsS RL 97 yL_key wsL_key) := goodIn_app (goodIn_of _ (by decide +kernel)) ggL_law_L_key
set_option maxRecDepth 20000 in
theorem ggL_law_X7_key : GoodIn wsL_law wsX7_key := goodIn_r _ [240, 176, 117, 177, 178, 5, 179, 579, 580, 581, 582, 583, 584, 585, 586, 587, 588, 589, 590, 591, 592, 593, 594, 595, 596, 597, 598, 599, 600, 601, 602, 603] (by decide +kernel) (by decide +kernel)
set_option maxRecDepth 20000 in
theorem gL_law_X7_key : GoodIn wsL_law (wsV RL 99 RX7 yX7_key wsX7_key) := goodIn_app (goodIn_of _ (by decide +kernel)) ggL_law_X7_key
set_option maxRecDepth 20000 in
theorem ggL_law_L_field : GoodIn wsL_law wsL_field := goodIn_ca (goodIn_ca (goodIn_r _ [243, 143, 144, 244, 245, 246, 2, 247, 20, 150, 151, 152, 153, 154, 155, 156, 157, 158, 159, 229, 230, 231, 64, 232, 77, 78, 80, 233, 234, 235, 236, 574, 575, 576, 577, 578, 607, 608, 609, 610, 611, 612, 613, 628, 629, 630] (by decide +kernel) (by decide +kernel)) (goodIn_sub (fun _ h => List.mem_append_left _ (List.mem_append_left _ (List.mem_append_right _ h))) (by decide +kernel))) (goodIn_sub (fun _ h => List.mem_append_left _ (List.mem_append_right _ h)) (by decide +kernel))
set_option maxRecDepth 20000 in
theorem gL_law_L_field : GoodIn wsL_law (va_wsS RL 100 yL_field wsL_field) := goodIn_app (goodIn_of _ (by decide +kernel)) ggL_law_L_field
set_option maxRecDepth 20000 in
theorem ggL_law_X7_field : GoodIn wsL_law wsX7_field := goodIn_r _ [251, 176, 118, 177, 178, 5, 179, 579, 580, 581, 582, 583, 584, 585, 586, 587, 588, 589, 590, 591, 592, 593, 594, 595, 596, 597, 598, 599, 600, 601, 602, 603] (by decide +kernel) (by decide +kernel)
set_option maxRecDepth 20000 in
theorem gL_law_X7_field : GoodIn wsL_law (wsV RL 102 RX7 yX7_field wsX7_field) := goodIn_app (goodIn_of _ (by decide +kernel)) ggL_law_X7_field
set_option maxRecDepth 20000 in
theorem ggL_law_L_load : GoodIn wsL_law wsL_load := goodIn_ca (goodIn_ca (goodIn_r _ [254, 143, 145, 255, 256, 257, 2, 258, 164, 165, 20, 24, 28, 16, 150, 151, 152, 153, 154, 259, 260, 261, 19, 262, 71, 68, 69, 72, 263, 55, 56, 36, 57, 49, 264, 265, 266, 23, 267, 88, 92, 89, 90, 91, 93, 268, 269, 270, 271, 27, 272, 100, 107, 273, 274, 275, 276, 70, 277, 167, 168, 169, 278, 279, 280, 281, 282, 283, 230, 231, 64, 232, 77, 78, 80, 284, 285, 286, 287, 102, 288, 289, 290, 291, 292, 293, 234, 235, 236, 294, 295, 296, 297, 105, 103, 104, 298, 299, 300, 15, 301, 38, 37, 302, 574, 575, 576, 577, 578, 607, 608, 609, 610, 611, 612, 613, 627, 614, 615, 616, 617, 618, 619, 620, 621, 622, 623, 624, 625, 626, 604, 605, 606, 628, 629, 630] (by decide +kernel) (by decide +kernel)) (goodIn_sub (fun _ h => List.mem_append_right _ h) (by decide +kernel))) (goodIn_sub (fun _ h => List.mem_append_left _ (List.mem_append_left _ (List.mem_append_right _ h))) (by decide +kernel))
set_option maxRecDepth 20000 in
theorem gL_law_L_load : GoodIn wsL_law (va_wsS RL 103 yL_load wsL_load) := goodIn_app (goodIn_of _ (by decide +kernel)) ggL_law_L_load
set_option maxRecDepth 20000 in
theorem ggL_law_X7_load : GoodIn wsL_law wsX7_load := goodIn_r _ [306, 221, 175, 176, 121, 122, 123, 117, 124, 118, 125, 177, 178, 5, 179, 135, 136, 137, 138, 307, 308, 309, 310, 126, 311, 127, 128, 312, 313, 314, 315, 129, 134, 133, 316, 317, 318, 319, 120, 320, 321, 322, 323, 116, 130, 324, 325, 326, 327, 131, 132, 328, 329, 330, 331, 115, 114, 332, 333, 334, 335, 579, 580, 581, 582, 583, 584, 585, 586, 587, 588, 589, 590, 591, 592, 593, 594, 595, 596, 597, 598, 599, 600, 601, 602, 603] (by decide +kernel) (by decide +kernel)
set_option maxRecDepth 20000 in
theorem gL_law_X7_load : GoodIn wsL_law (wsV RL 106 RX7 yX7_load wsX7_load) := goodIn_app (goodIn_of _ (by decide +kernel)) ggL_law_X7_load
set_option maxRecDepth 20000 in
theorem ggL_law_L_protect : GoodIn wsL_law wsL_protect := goodIn_ca (goodIn_ca (goodIn_r _ [338, 143, 145, 339, 340, 341, 2, 342, 24, 28, 343, 344, 345, 346, 153, 154, 347, 348, 349, 27, 350, 100, 282, 167, 168, 36, 169, 49, 150, 151, 152, 351, 352, 353, 354, 164, 165, 355, 356, 357, 23, 358, 92, 93, 264, 265, 266, 267, 88, 89, 90, 91, 268, 55, 56, 57, 359, 360, 361, 362, 105, 363, 283, 230, 231, 64, 232, 77, 78, 80, 293, 234, 235, 236, 574, 575, 576, 577, 578, 620, 621, 622, 623, 624, 625, 626, 627, 614, 615, 616, 617, 618, 619, 628, 629, 630] (by decide +kernel) (by decide +kernel)) (goodIn_sub (fun _ h => List.mem_append_left _ (List.mem_append_left _ (List.mem_append_right _ h))) (by decide +kernel))) (goodIn_sub (fun _ h => List.mem_append_right _ h) (by decide +kernel))
set_option maxRecDepth 20000 in
theorem gL_law_L_protect : GoodIn wsL_law (va_wsS RL 107 yL_protect wsL_protect) := goodIn_app (goodIn_of _ (by decide +kernel)) ggL_law_L_protect
set_option maxRecDepth 20000 in
theorem ggL_law_X7_protect : GoodIn wsL_law wsX7_protect := goodIn_r _ [367, 368, 176, 133, 369, 370, 371, 5, 372, 129, 177, 178, 179, 307, 308, 309, 310, 126, 311, 127, 128, 312, 313, 314, 315, 134, 316, 317, 318, 319, 120, 121, 125, 320, 321, 322, 323, 123, 116, 130, 324, 325, 326, 327, 124, 131, 132, 122, 328, 329, 330, 331, 115, 114, 332, 333, 334, 335, 579, 580, 581, 582, 583, 584, 585, 586, 587, 588, 589, 590, 591, 592, 593, 594, 595, 596, 597, 598, 599, 600, 601, 602, 603] (by decide +kernel) (by decide +kernel)
set_option maxRecDepth 20000 in
theorem gL_law_X7_protect : GoodIn wsL_law (wsV RL 110 RX7 yX7_protect wsX7_protect) := goodIn_app (goodIn_of _ (by decide +kernel)) ggL_law_X7_protect
set_option maxRecDepth 20000 in
theorem ggL_law_L_hold : GoodIn wsL_law wsL_hold := goodIn_ca (goodIn_ca (goodIn_r _ [375, 143, 145, 376, 377, 378, 2, 379, 24, 28, 343, 344, 345, 346, 153, 154, 347, 348, 349, 27, 350, 100, 282, 167, 168, 36, 169, 49, 351, 352, 353, 354, 164, 165, 355, 356, 357, 23, 358, 92, 93, 264, 265, 266, 267, 88, 89, 90, 91, 268, 55, 56, 57, 380, 381, 382, 383, 106, 363, 288, 574, 575, 576, 577, 578, 620, 621, 622, 623, 624, 625, 626, 627, 614, 615, 616, 617, 618, 619] (by decide +kernel) (by decide +kernel)) (goodIn_sub (fun _ h => List.mem_append_left _ (List.mem_append_left _ (List.mem_append_right _ h))) (by decide +kernel))) (goodIn_sub (fun _ h => List.mem_append_right _ h) (by decide +kernel))
set_option maxRecDepth 20000 in
theorem gL_law_L_hold : GoodIn wsL_law (va_wsS RL 111 yL_hold wsL_hold) := goodIn_app (goodIn_of _ (by decide +kernel)) ggL_law_L_hold
set_option maxRecDepth 20000 in
theorem ggL_law_X7_hold : GoodIn wsL_law wsX7_hold := goodIn_r _ [387, 368, 176, 134, 369, 370, 371, 5, 372, 129, 177, 178, 179, 307, 308, 309, 310, 126, 311, 127, 128, 312, 313, 314, 315, 133, 316, 317, 318, 319, 120, 121, 125, 320, 321, 322, 323, 123, 116, 130, 324, 325, 326, 327, 124, 131, 132, 122, 328, 329, 330, 331, 115, 114, 332, 333, 334, 335, 579, 580, 581, 582, 583, 584, 585, 586, 587, 588, 589, 590, 591, 592, 593, 594, 595, 596, 597, 598, 599, 600, 601, 602, 603] (by decide +kernel) (by decide +kernel)
set_option maxRecDepth 20000 in
theorem gL_law_X7_hold : GoodIn wsL_law (wsV RL 113 RX7 yX7_hold wsX7_hold) := goodIn_app (goodIn_of _ (by decide +kernel)) ggL_law_X7_hold
set_option maxRecDepth 20000 in
theorem ggL_law_L_merge : GoodIn wsL_law wsL_merge := goodIn_ca (goodIn_ca (goodIn_ca (goodIn_r _ [390, 143, 144, 145, 391, 392, 393, 2, 394, 158, 159, 24, 28, 343, 344, 345, 346, 153, 154, 347, 348, 349, 27, 350, 100, 282, 167, 168, 36, 169, 49, 351, 352, 353, 354, 164, 165, 355, 356, 357, 23, 358, 92, 93, 264, 265, 266, 267, 88, 89, 90, 91, 268, 55, 56, 57, 395, 396, 397, 398, 102, 103, 104, 106, 363, 283, 230, 231, 64, 232, 77, 78, 80, 293, 234, 235, 236, 288, 399, 381, 382, 383, 574, 575, 576, 577, 578, 620, 621, 622, 623, 624, 625, 626, 627, 614, 615, 616, 617, 618, 619, 628, 629, 630] (by decide +kernel) (by decide +kernel)) (goodIn_sub (fun _ h => List.mem_append_left _ (List.mem_append_right _ h)) (by decide +kernel))) (goodIn_sub (fun _ h => List.mem_append_left _ (List.mem_append_left _ (List.mem_append_right _ h))) (by decide +kernel))) (goodIn_sub (fun _ h => List.mem_append_right _ h) (by decide +kernel))
set_option maxRecDepth 20000 in
theorem gL_law_L_merge : GoodIn wsL_law (va_wsS RL 114 yL_merge wsL_merge) := goodIn_app (goodIn_of _ (by decide +kernel)) ggL_law_L_merge
set_option maxRecDepth 20000 in
theorem ggL_law_X7_merge : GoodIn wsL_law wsX7_merge := goodIn_r _ [403, 368, 176, 134, 369, 370, 371, 5, 372, 129, 177, 178, 179, 307, 308, 309, 310, 126, 311, 127, 128, 312, 313, 314, 315, 133, 316, 317, 318, 319, 120, 121, 125, 320, 321, 322, 323, 123, 116, 130, 324, 325, 326, 327, 124, 131, 132, 122, 328, 329, 330, 331, 115, 114, 332, 333, 334, 335, 579, 580, 581, 582, 583, 584, 585, 586, 587, 588, 589, 590, 591, 592, 593, 594, 595, 596, 597, 598, 599, 600, 601, 602, 603] (by decide +kernel) (by decide +kernel)
set_option maxRecDepth 20000 in
theorem gL_law_X7_merge : GoodIn wsL_law (wsV RL 116 RX7 yX7_merge wsX7_merge) := goodIn_app (goodIn_of _ (by decide +kernel)) ggL_law_X7_merge
set_option maxRecDepth 20000 in
theorem ggL_law_L_undo : GoodIn wsL_law wsL_undo := goodIn_ca (goodIn_ca (goodIn_r _ [406, 143, 145, 407, 408, 409, 2, 410, 164, 165, 20, 28, 150, 151, 152, 153, 154, 166, 167, 168, 36, 169, 49, 170, 55, 56, 57, 411, 412, 413, 414, 24, 415, 416, 417, 27, 418, 100, 102, 103, 104, 105, 106, 107, 419, 420, 421, 422, 50, 51, 52, 53, 423, 424, 425, 64, 426, 80, 81, 427, 428, 429, 430, 16, 269, 270, 271, 272, 273, 274, 275, 19, 276, 70, 69, 277, 278, 279, 280, 281, 282, 283, 230, 231, 232, 77, 78, 284, 285, 286, 287, 288, 289, 290, 291, 292, 293, 234, 235, 236, 294, 295, 296, 297, 298, 299, 300, 15, 301, 38, 37, 302, 359, 360, 361, 362, 363, 348, 349, 350, 380, 381, 382, 383, 395, 396, 397, 398, 399, 431, 432, 433, 434, 574, 575, 576, 577, 578, 607, 608, 609, 610, 611, 612, 613, 627, 614, 615, 616, 617, 618, 619, 620, 621, 622, 623, 624, 625, 626, 628, 629, 630, 604, 605, 606] (by decide +kernel) (by decide +kernel)) (goodIn_sub (fun _ h => List.mem_append_right _ h) (by decide +kernel))) (goodIn_sub (fun _ h => List.mem_append_left _ (List.mem_append_left _ (List.mem_append_right _ h))) (by decide +kernel))
set_option maxRecDepth 20000 in
theorem gL_law_L_undo : GoodIn wsL_law (va_wsS RL 117 yL_undo wsL_undo) := goodIn_app (goodIn_of _ (by decide +kernel)) ggL_law_L_undo
set_option maxRecDepth 20000 in
theorem ggL_law_X7_undo : GoodIn wsL_law wsX7_undo := goodIn_r _ [438, 221, 120, 176, 177, 178, 5, 179, 439, 440, 441, 442, 129, 311, 312, 313, 314, 315, 127, 128, 126, 134, 133, 316, 317, 318, 319, 121, 125, 320, 321, 322, 323, 123, 116, 130, 324, 325, 326, 327, 124, 131, 132, 122, 328, 329, 330, 331, 115, 114, 332, 333, 334, 335, 443, 444, 445, 446, 579, 580, 581, 582, 583, 584, 585, 586, 587, 588, 589, 590, 591, 592, 593, 594, 595, 596, 597, 598, 599, 600, 601, 602, 603] (by decide +kernel) (by decide +kernel)
set_option maxRecDepth 20000 in
theorem gL_law_X7_undo : GoodIn wsL_law (wsV RL 120 RX7 yX7_undo wsX7_undo) := goodIn_app (goodIn_of _ (by decide +kernel)) ggL_law_X7_undo
set_option maxRecDepth 20000 in
theorem ggL_law_X6_batches : GoodIn wsL_law wsX6_batches := goodIn_r _ [450, 20, 574, 575, 576, 577, 578, 607, 608, 609, 610, 611, 612, 613] (by decide +kernel) (by decide +kernel)
set_option maxRecDepth 20000 in
theorem gL_law_X6_batches : GoodIn wsL_law (wsV RL 121 RX6 yX6_batches wsX6_batches) := goodIn_app (goodIn_of _ (by decide +kernel)) ggL_law_X6_batches
set_option maxRecDepth 20000 in
theorem ggL_law_X7_batches : GoodIn wsL_law wsX7_batches := goodIn_r _ [454, 176, 221, 579, 580, 581, 582, 583, 584, 585, 586, 587, 588, 589, 590, 591, 592, 593, 594, 595, 596, 597, 598, 599, 600, 601, 602, 603] (by decide +kernel) (by decide +kernel)
set_option maxRecDepth 20000 in
theorem gL_law_X7_batches : GoodIn wsL_law (wsV RL 124 RX7 yX7_batches wsX7_batches) := goodIn_app (goodIn_of _ (by decide +kernel)) ggL_law_X7_batches
set_option maxRecDepth 20000 in
theorem ggL_law_X6_loads : GoodIn wsL_law wsX6_loads := goodIn_r _ [458, 20, 574, 575, 576, 577, 578, 607, 608, 609, 610, 611, 612, 613] (by decide +kernel) (by decide +kernel)
set_option maxRecDepth 20000 in
theorem gL_law_X6_loads : GoodIn wsL_law (wsV RL 125 RX6 yX6_loads wsX6_loads) := goodIn_app (goodIn_of _ (by decide +kernel)) ggL_law_X6_loads
set_option maxRecDepth 20000 in
theorem ggL_law_X7_loads : GoodIn wsL_law wsX7_loads := goodIn_r _ [462, 176, 175, 579, 580, 581, 582, 583, 584, 585, 586, 587, 588, 589, 590, 591, 592, 593, 594, 595, 596, 597, 598, 599, 600, 601, 602, 603] (by decide +kernel) (by decide +kernel)
set_option maxRecDepth 20000 in
theorem gL_law_X7_loads : GoodIn wsL_law (wsV RL 128 RX7 yX7_loads wsX7_loads) := goodIn_app (goodIn_of _ (by decide +kernel)) ggL_law_X7_loads
set_option maxRecDepth 20000 in
theorem ggL_law_X6_records : GoodIn wsL_law wsX6_records := goodIn_r _ [466, 28, 431, 432, 433, 27, 434, 363, 348, 349, 350, 100, 282, 167, 168, 36, 169, 49, 574, 575, 576, 577, 578, 620, 621, 622, 623, 624, 625, 626, 627] (by decide +kernel) (by decide +kernel)
set_option maxRecDepth 20000 in
theorem gL_law_X6_records : GoodIn wsL_law (wsV RL 129 RX6 yX6_records wsX6_records) := goodIn_app (goodIn_of _ (by decide +kernel)) ggL_law_X6_records
set_option maxRecDepth 20000 in
theorem ggL_law_X7_records : GoodIn wsL_law wsX7_records := goodIn_r _ [470, 176, 443, 444, 445, 5, 446, 129, 579, 580, 581, 582, 583, 584, 585, 586, 587, 588, 589, 590, 591, 592, 593, 594, 595, 596, 597, 598, 599, 600, 601, 602, 603] (by decide +kernel) (by decide +kernel)
set_option maxRecDepth 20000 in
theorem gL_law_X7_records : GoodIn wsL_law (wsV RL 132 RX7 yX7_records wsX7_records) := goodIn_app (goodIn_of _ (by decide +kernel)) ggL_law_X7_records
set_option maxRecDepth 20000 in
theorem ggL_law_L_isUndone : GoodIn wsL_law wsL_isUndone := goodIn_ca (goodIn_r _ [473, 143, 474, 475, 476, 2, 477, 20, 150, 151, 152, 153, 154, 166, 167, 168, 36, 169, 49, 574, 575, 576, 577, 578, 607, 608, 609, 610, 611, 612, 613, 627] (by decide +kernel) (by decide +kernel)) (goodIn_sub (fun _ h => List.mem_append_left _ (List.mem_append_left _ (List.mem_append_right _ h))) (by decide +kernel))
set_option maxRecDepth 20000 in
theorem gL_law_L_isUndone : GoodIn wsL_law (va_wsS RL 133 yL_isUndone wsL_isUndone) := goodIn_app (goodIn_of _ (by decide +kernel)) ggL_law_L_isUndone
set_option maxRecDepth 20000 in
theorem ggL_law_X7_isUndone : GoodIn wsL_law wsX7_isUndone := goodIn_r _ [481, 221, 176, 120, 177, 178, 5, 179, 579, 580, 581, 582, 583, 584, 585, 586, 587, 588, 589, 590, 591, 592, 593, 594, 595, 596, 597, 598, 599, 600, 601, 602, 603] (by decide +kernel) (by decide +kernel)
set_option maxRecDepth 20000 in
theorem gL_law_X7_isUndone : GoodIn wsL_law (wsV RL 135 RX7 yX7_isUndone wsX7_isUndone) := goodIn_app (goodIn_of _ (by decide +kernel)) ggL_law_X7_isUndone
set_option maxRecDepth 20000 in
theorem ggL_law_X6_isThere : GoodIn wsL_law wsX6_isThere := goodIn_r _ [485, 28, 347, 348, 349, 27, 350, 100, 282, 167, 168, 36, 169, 49, 574, 575, 576, 577, 578, 620, 621, 622, 623, 624, 625, 626, 627] (by decide +kernel) (by decide +kernel)
set_option maxRecDepth 20000 in
theorem gL_law_X6_isThere : GoodIn wsL_law (wsV RL 136 RX6 yX6_isThere wsX6_isThere) := goodIn_app (goodIn_of _ (by decide +kernel)) ggL_law_X6_isThere
set_option maxRecDepth 20000 in
theorem ggL_law_X7_isThere : GoodIn wsL_law wsX7_isThere := goodIn_r _ [489, 176, 369, 370, 371, 5, 372, 129, 177, 178, 179, 579, 580, 581, 582, 583, 584, 585, 586, 587, 588, 589, 590, 591, 592, 593, 594, 595, 596, 597, 598, 599, 600, 601, 602, 603] (by decide +kernel) (by decide +kernel)
set_option maxRecDepth 20000 in
theorem gL_law_X7_isThere : GoodIn wsL_law (wsV RL 139 RX7 yX7_isThere wsX7_isThere) := goodIn_app (goodIn_of _ (by decide +kernel)) ggL_law_X7_isThere
set_option maxRecDepth 20000 in
theorem ggL_law_L_hit : GoodIn wsL_law wsL_hit := goodIn_ca (goodIn_r _ [492, 143, 493, 494, 495, 2, 496, 20, 28, 150, 151, 152, 153, 154, 166, 167, 168, 36, 169, 49, 574, 575, 576, 577, 578, 607, 608, 609, 610, 611, 612, 613, 620, 621, 622, 623, 624, 625, 626, 627] (by decide +kernel) (by decide +kernel)) (goodIn_sub (fun _ h => List.mem_append_left _ (List.mem_append_left _ (List.mem_append_right _ h))) (by decide +kernel))
set_option maxRecDepth 20000 in
theorem gL_law_L_hit : GoodIn wsL_law (va_wsS RL 140 yL_hit wsL_hit) := goodIn_app (goodIn_of _ (by decide +kernel)) ggL_law_L_hit
set_option maxRecDepth 20000 in
theorem ggL_law_X7_hit : GoodIn wsL_law wsX7_hit := goodIn_r _ [500, 175, 176, 125, 177, 178, 5, 179, 579, 580, 581, 582, 583, 584, 585, 586, 587, 588, 589, 590, 591, 592, 593, 594, 595, 596, 597, 598, 599, 600, 601, 602, 603] (by decide +kernel) (by decide +kernel)
set_option maxRecDepth 20000 in
theorem gL_law_X7_hit : GoodIn wsL_law (wsV RL 142 RX7 yX7_hit wsX7_hit) := goodIn_app (goodIn_of _ (by decide +kernel)) ggL_law_X7_hit
set_option maxRecDepth 20000 in
theorem ggL_law_L_keyOf : GoodIn wsL_law wsL_keyOf := goodIn_ca (goodIn_r _ [503, 143, 504, 505, 506, 2, 507, 28, 343, 344, 345, 346, 153, 154, 347, 348, 349, 27, 350, 100, 282, 167, 168, 36, 169, 49, 150, 151, 152, 229, 230, 231, 64, 232, 77, 78, 80, 574, 575, 576, 577, 578, 620, 621, 622, 623, 624, 625, 626, 627, 628, 629, 630] (by decide +kernel) (by decide +kernel)) (goodIn_sub (fun _ h => List.mem_append_left _ (List.mem_append_left _ (List.mem_append_right _ h))) (by decide +kernel))
set_option maxRecDepth 20000 in
theorem gL_law_L_keyOf : GoodIn wsL_law (va_wsS RL 143 yL_keyOf wsL_keyOf) := goodIn_app (goodIn_of _ (by decide +kernel)) ggL_law_L_keyOf
set_option maxRecDepth 20000 in
theorem ggL_law_X7_keyOf : GoodIn wsL_law wsX7_keyOf := goodIn_r _ [511, 176, 130, 369, 370, 371, 5, 372, 129, 177, 178, 179, 579, 580, 581, 582, 583, 584, 585, 586, 587, 588, 589, 590, 591, 592, 593, 594, 595, 596, 597, 598, 599, 600, 601, 602, 603] (by decide +kernel) (by decide +kernel)
set_option maxRecDepth 20000 in
theorem gL_law_X7_keyOf : GoodIn wsL_law (wsV RL 145 RX7 yX7_keyOf wsX7_keyOf) := goodIn_app (goodIn_of _ (by decide +kernel)) ggL_law_X7_keyOf
set_option maxRecDepth 20000 in
theorem ggL_law_L_fieldOf : GoodIn wsL_law wsL_fieldOf := goodIn_ca (goodIn_r _ [514, 143, 515, 516, 517, 2, 518, 28, 343, 344, 345, 346, 153, 154, 347, 348, 349, 27, 350, 100, 282, 167, 168, 36, 169, 49, 150, 151, 152, 229, 230, 231, 64, 232, 77, 78, 80, 574, 575, 576, 577, 578, 620, 621, 622, 623, 624, 625, 626, 627, 628, 629, 630] (by decide +kernel) (by decide +kernel)) (goodIn_sub (fun _ h => List.mem_append_left _ (List.mem_append_left _ (List.mem_append_right _ h))) (by decide +kernel))
set_option maxRecDepth 20000 in
theorem gL_law_L_fieldOf : GoodIn wsL_law (va_wsS RL 146 yL_fieldOf wsL_fieldOf) := goodIn_app (goodIn_of _ (by decide +kernel)) ggL_law_L_fieldOf
set_option maxRecDepth 20000 in
theorem ggL_law_X7_fieldOf : GoodIn wsL_law wsX7_fieldOf := goodIn_r _ [522, 176, 131, 369, 370, 371, 5, 372, 129, 177, 178, 179, 579, 580, 581, 582, 583, 584, 585, 586, 587, 588, 589, 590, 591, 592, 593, 594, 595, 596, 597, 598, 599, 600, 601, 602, 603] (by decide +kernel) (by decide +kernel)
set_option maxRecDepth 20000 in
theorem gL_law_X7_fieldOf : GoodIn wsL_law (wsV RL 148 RX7 yX7_fieldOf wsX7_fieldOf) := goodIn_app (goodIn_of _ (by decide +kernel)) ggL_law_X7_fieldOf
set_option maxRecDepth 20000 in
theorem ggL_law_L_sourceOf : GoodIn wsL_law wsL_sourceOf := goodIn_ca (goodIn_r _ [525, 143, 526, 527, 528, 2, 529, 28, 343, 344, 345, 346, 153, 154, 347, 348, 349, 27, 350, 100, 282, 167, 168, 36, 169, 49, 150, 151, 152, 229, 230, 231, 64, 232, 77, 78, 80, 574, 575, 576, 577, 578, 620, 621, 622, 623, 624, 625, 626, 627, 628, 629, 630] (by decide +kernel) (by decide +kernel)) (goodIn_sub (fun _ h => List.mem_append_left _ (List.mem_append_left _ (List.mem_append_right _ h))) (by decide +kernel))
set_option maxRecDepth 20000 in
theorem gL_law_L_sourceOf : GoodIn wsL_law (va_wsS RL 149 yL_sourceOf wsL_sourceOf) := goodIn_app (goodIn_of _ (by decide +kernel)) ggL_law_L_sourceOf
set_option maxRecDepth 20000 in
theorem ggL_law_X7_sourceOf : GoodIn wsL_law wsX7_sourceOf := goodIn_r _ [533, 176, 132, 369, 370, 371, 5, 372, 129, 177, 178, 179, 579, 580, 581, 582, 583, 584, 585, 586, 587, 588, 589, 590, 591, 592, 593, 594, 595, 596, 597, 598, 599, 600, 601, 602, 603] (by decide +kernel) (by decide +kernel)
set_option maxRecDepth 20000 in
theorem gL_law_X7_sourceOf : GoodIn wsL_law (wsV RL 151 RX7 yX7_sourceOf wsX7_sourceOf) := goodIn_app (goodIn_of _ (by decide +kernel)) ggL_law_X7_sourceOf
set_option maxRecDepth 20000 in
theorem ggL_law_L_holdings : GoodIn wsL_law wsL_holdings := goodIn_ca (goodIn_r _ [536, 143, 537, 538, 539, 2, 540, 28, 343, 344, 345, 346, 153, 154, 347, 348, 349, 27, 350, 100, 282, 167, 168, 36, 169, 49, 166, 574, 575, 576, 577, 578, 620, 621, 622, 623, 624, 625, 626, 627] (by decide +kernel) (by decide +kernel)) (goodIn_sub (fun _ h => List.mem_append_left _ (List.mem_append_left _ (List.mem_append_right _ h))) (by decide +kernel))
set_option maxRecDepth 20000 in
theorem gL_law_L_holdings : GoodIn wsL_law (va_wsS RL 152 yL_holdings wsL_holdings) := goodIn_app (goodIn_of _ (by decide +kernel)) ggL_law_L_holdings
set_option maxRecDepth 20000 in
theorem ggL_law_X7_holdings : GoodIn wsL_law wsX7_holdings := goodIn_r _ [544, 176, 134, 369, 370, 371, 5, 372, 129, 177, 178, 179, 579, 580, 581, 582, 583, 584, 585, 586, 587, 588, 589, 590, 591, 592, 593, 594, 595, 596, 597, 598, 599, 600, 601, 602, 603] (by decide +kernel) (by decide +kernel)
set_option maxRecDepth 20000 in
theorem gL_law_X7_holdings : GoodIn wsL_law (wsV RL 154 RX7 yX7_holdings wsX7_holdings) := goodIn_app (goodIn_of _ (by decide +kernel)) ggL_law_X7_holdings
set_option maxRecDepth 20000 in
theorem ggL_law_X6_digest : GoodIn wsL_law wsX6_digest := goodIn_r _ [548, 28, 549, 550, 551, 27, 552, 106, 363, 348, 349, 350, 100, 282, 167, 168, 36, 169, 49, 553, 554, 555, 556, 102, 557, 45, 46, 47, 103, 283, 230, 231, 64, 232, 77, 78, 80, 574, 575, 576, 577, 578, 620, 621, 622, 623, 624, 625, 626, 627, 628, 629, 630] (by decide +kernel) (by decide +kernel)
set_option maxRecDepth 20000 in
theorem gL_law_X6_digest : GoodIn wsL_law (wsV RL 155 RX6 yX6_digest wsX6_digest) := goodIn_app (goodIn_of _ (by decide +kernel)) ggL_law_X6_digest
set_option maxRecDepth 20000 in
theorem ggL_law_X7_digest : GoodIn wsL_law wsX7_digest := goodIn_r _ [561, 176, 562, 563, 564, 5, 565, 130, 131, 129, 134, 579, 580, 581, 582, 583, 584, 585, 586, 587, 588, 589, 590, 591, 592, 593, 594, 595, 596, 597, 598, 599, 600, 601, 602, 603] (by decide +kernel) (by decide +kernel)
set_option maxRecDepth 20000 in
theorem gL_law_X7_digest : GoodIn wsL_law (wsV RL 158 RX7 yX7_digest wsX7_digest) := goodIn_app (goodIn_of _ (by decide +kernel)) ggL_law_X7_digest
set_option maxRecDepth 20000 in
theorem ggL_law_X6_digestAnew : GoodIn wsL_law wsX6_digestAnew := goodIn_r _ [569, 29, 411, 412, 413, 2, 414, 24, 415, 416, 417, 27, 418, 100, 102, 103, 104, 105, 106, 107, 419, 420, 421, 36, 422, 49, 50, 51, 52, 53, 423, 424, 425, 64, 426, 80, 81, 427, 428, 429, 430, 16, 20, 166, 167, 168, 169, 269, 270, 271, 272, 273, 274, 275, 19, 276, 70, 69, 277, 278, 279, 280, 281, 282, 283, 230, 231, 232, 77, 78, 284, 285, 286, 287, 288, 55, 56, 57, 289, 290, 291, 292, 293, 234, 235, 236, 294, 295, 296, 297, 298, 299, 300, 15, 301, 38, 37, 302, 359, 360, 361, 362, 363, 348, 349, 350, 380, 381, 382, 383, 395, 396, 397, 398, 399, 549, 550, 551, 552, 553, 554, 555, 556, 557, 45, 46, 47, 574, 575, 576, 577, 578, 614, 615, 616, 617, 618, 619, 620, 621, 622, 623, 624, 625, 626, 627, 628, 629, 630, 607, 608, 609, 610, 611, 612, 613, 604, 605, 606] (by decide +kernel) (by decide +kernel)
set_option maxRecDepth 20000 in
theorem gL_law_X6_digestAnew : GoodIn wsL_law (wsV RL 159 RX6 yX6_digestAnew wsX6_digestAnew) := goodIn_app (goodIn_of _ (by decide +kernel)) ggL_law_X6_digestAnew
set_option maxRecDepth 20000 in
theorem ggL_law_X7_digestAnew : GoodIn wsL_law wsX7_digestAnew := goodIn_r _ [573, 176, 439, 440, 441, 5, 442, 129, 311, 312, 313, 314, 315, 127, 128, 126, 134, 133, 316, 317, 318, 319, 120, 121, 125, 320, 321, 322, 323, 123, 116, 130, 324, 325, 326, 327, 124, 131, 132, 122, 328, 329, 330, 331, 115, 114, 332, 333, 334, 335, 562, 563, 564, 565, 579, 580, 581, 582, 583, 584, 585, 586, 587, 588, 589, 590, 591, 592, 593, 594, 595, 596, 597, 598, 599, 600, 601, 602, 603] (by decide +kernel) (by decide +kernel)
set_option maxRecDepth 20000 in
theorem gL_law_X7_digestAnew : GoodIn wsL_law (wsV RL 162 RX7 yX7_digestAnew wsX7_digestAnew) := goodIn_app (goodIn_of _ (by decide +kernel)) ggL_law_X7_digestAnew
