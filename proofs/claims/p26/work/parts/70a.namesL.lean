set_option maxRecDepth 20000 in
theorem ggL_law_X6_init : GoodIn wsL_law wsX6_init := goodIn_r _ [9, 10, 11, 12, 13, 14, 15, 16, 17, 18, 19, 20, 21, 22, 23, 24, 25, 26, 27, 28, 29, 30, 31, 32, 33, 34, 35, 36, 37, 38, 39, 40, 41, 42, 43, 44, 45, 46, 47, 4, 48, 49, 50, 51, 52, 53, 54, 55, 56, 57, 58, 59, 60, 61, 62, 63, 64, 65, 66, 67, 68, 69, 70, 71, 72, 73, 74, 75, 76, 77, 78, 79, 80, 81, 82, 83, 84, 85, 86, 87, 88, 89, 90, 91, 92, 93, 94, 95, 96, 97, 98, 99, 100, 101, 102, 103, 104, 105, 106, 107, 108, 403, 404, 405, 398, 399, 400, 401, 402, 406, 407, 408, 409, 410, 411, 412, 413, 414, 415, 416, 417, 418, 419, 420, 421, 422, 423, 424, 425, 426, 427, 428, 429] (by decide +kernel) (by decide +kernel)
set_option maxRecDepth 20000 in
theorem gL_law_X6_init : GoodIn wsL_law (wsX6_init) := ggL_law_X6_init
set_option maxRecDepth 20000 in
theorem ggL_law_L_isCatalogue : GoodIn wsL_law wsL_isCatalogue := goodIn_ca (goodIn_r _ [112, 113, 114, 115, 2, 116, 20, 117, 118, 119, 120, 121, 122, 123, 124, 28, 125, 126, 127, 27, 128, 129, 130, 131, 132, 99, 133, 134, 135, 36, 136, 48, 137, 138, 111, 139, 140, 141, 142, 143, 144, 145, 146, 147, 148, 149, 150, 151, 152, 153, 154, 155, 156, 157, 158, 159, 160, 161, 162, 163, 164, 165, 166, 167, 168, 63, 169, 76, 77, 79, 170, 171, 172, 173, 174, 175, 176, 177, 178, 179, 180, 181, 182, 183, 184, 185, 186, 187, 188, 189, 190, 191, 192, 193, 194, 195, 196, 197, 198, 199, 200, 201, 202, 203, 204, 205, 105, 206, 207, 208, 209, 101, 210, 45, 46, 47, 102, 211, 212, 213, 214, 215, 29, 216, 217, 218, 219, 24, 220, 221, 222, 223, 103, 104, 106, 224, 225, 226, 227, 49, 50, 51, 52, 228, 229, 230, 231, 80, 232, 233, 234, 235, 16, 236, 237, 238, 239, 240, 241, 242, 19, 243, 69, 68, 244, 245, 246, 247, 248, 249, 250, 251, 252, 253, 54, 55, 56, 254, 255, 256, 257, 258, 259, 260, 261, 262, 263, 264, 265, 266, 267, 268, 15, 269, 38, 37, 270, 271, 272, 273, 274, 275, 276, 277, 278, 279, 280, 281, 282, 283, 398, 399, 400, 401, 402, 406, 407, 408, 409, 410, 411, 412, 419, 420, 421, 422, 423, 424, 425, 426, 427, 428, 429, 413, 414, 415, 416, 417, 418, 403, 404, 405] (by decide +kernel) (by decide +kernel)) (goodIn_sub (fun _ h => List.mem_append_left _ (List.mem_append_left _ (List.mem_append_right _ h))) (by decide +kernel))
set_option maxRecDepth 20000 in
theorem gL_law_L_isCatalogue : GoodIn wsL_law (va_wsS RL 139 yL_isCatalogue wsL_isCatalogue) := goodIn_app (goodIn_of _ (by decide +kernel)) ggL_law_L_isCatalogue
set_option maxRecDepth 20000 in
theorem ggL_law_L_isIn : GoodIn wsL_law wsL_isIn := goodIn_r _ [142] (by decide +kernel) (by decide +kernel)
set_option maxRecDepth 20000 in
theorem gL_law_L_isIn : GoodIn wsL_law (va_wsS RL 15 yL_isIn wsL_isIn) := goodIn_app (goodIn_of _ (by decide +kernel)) ggL_law_L_isIn
set_option maxRecDepth 20000 in
theorem ggL_law_L_does : GoodIn wsL_law wsL_does := goodIn_ca (goodIn_ca (goodIn_ca (goodIn_r _ [286, 287, 288, 289, 290, 291, 292, 2, 293, 294, 295, 20, 296, 297, 298, 19, 299, 71, 300, 301, 302, 303, 152, 153, 154, 155, 156, 304, 305, 306, 307, 308, 166, 167, 168, 63, 169, 76, 77, 79, 309, 259, 260, 261, 310, 311, 312, 313, 314, 315, 316, 317, 24, 28, 16, 318, 319, 320, 321, 70, 67, 68, 322, 54, 55, 36, 56, 48, 323, 324, 325, 23, 326, 87, 91, 88, 89, 90, 92, 327, 236, 237, 238, 27, 239, 99, 106, 240, 241, 242, 243, 69, 244, 134, 135, 136, 245, 246, 247, 248, 133, 211, 249, 250, 251, 252, 101, 253, 254, 255, 256, 257, 258, 262, 263, 264, 265, 104, 102, 103, 266, 267, 268, 15, 269, 38, 37, 270, 328, 329, 330, 331, 162, 163, 164, 165, 147, 130, 131, 132, 332, 333, 334, 335, 336, 337, 338, 339, 275, 276, 277, 278, 105, 129, 340, 341, 342, 343, 279, 280, 281, 282, 283, 344, 345, 346, 347, 157, 348, 216, 217, 218, 219, 220, 221, 222, 223, 224, 225, 226, 227, 49, 50, 51, 52, 228, 229, 230, 231, 80, 232, 233, 234, 235, 271, 272, 273, 274, 125, 126, 127, 128, 349, 350, 351, 352, 353, 354, 355, 356, 357, 358, 359, 360, 398, 399, 400, 401, 402, 406, 407, 408, 409, 410, 411, 412, 427, 428, 429, 426, 413, 414, 415, 416, 417, 418, 419, 420, 421, 422, 423, 424, 425, 403, 404, 405] (by decide +kernel) (by decide +kernel)) (goodIn_sub (fun _ h => List.mem_append_left _ (List.mem_append_right _ h)) (by decide +kernel))) (goodIn_sub (fun _ h => List.mem_append_left _ (List.mem_append_left _ (List.mem_append_right _ h))) (by decide +kernel))) (goodIn_sub (fun _ h => List.mem_append_right _ h) (by decide +kernel))
set_option maxRecDepth 20000 in
theorem gL_law_L_does : GoodIn wsL_law (va_wsS RL 145 yL_does wsL_does) := goodIn_app (goodIn_of _ (by decide +kernel)) ggL_law_L_does
set_option maxRecDepth 20000 in
theorem ggL_law_X6_setOrder : GoodIn wsL_law wsX6_setOrder := goodIn_ca (goodIn_ca (goodIn_r _ [364, 307, 308, 16, 304, 305, 2, 306, 353, 354, 355, 356, 294, 295, 20, 348, 54, 55, 36, 56, 48, 398, 399, 400, 401, 402, 403, 404, 405, 406, 407, 408, 409, 410, 411, 412, 426] (by decide +kernel) (by decide +kernel)) (goodIn_sub (fun _ h => List.mem_append_right _ h) (by decide +kernel))) (goodIn_sub (fun _ h => List.mem_append_left _ (List.mem_append_right _ h)) (by decide +kernel))
set_option maxRecDepth 20000 in
theorem gL_law_X6_setOrder : GoodIn wsL_law (wsV RL 149 RX6 yX6_setOrder wsX6_setOrder) := goodIn_app (goodIn_of _ (by decide +kernel)) ggL_law_X6_setOrder
set_option maxRecDepth 20000 in
theorem ggL_law_L_key : GoodIn wsL_law wsL_key := goodIn_r _ [172, 173] (by decide +kernel) (by decide +kernel)
set_option maxRecDepth 20000 in
theorem gL_law_L_key : GoodIn wsL_law (va_wsS RL 21 yL_key wsL_key) := goodIn_app (goodIn_of _ (by decide +kernel)) ggL_law_L_key
set_option maxRecDepth 20000 in
theorem ggL_law_L_withKey : GoodIn wsL_law wsL_withKey := goodIn_r _ [367, 173, 368] (by decide +kernel) (by decide +kernel)
set_option maxRecDepth 20000 in
theorem gL_law_L_withKey : GoodIn wsL_law (va_wsS RL 31 yL_withKey wsL_withKey) := goodIn_app (goodIn_of _ (by decide +kernel)) ggL_law_L_withKey
set_option maxRecDepth 20000 in
theorem ggL_law_L_field : GoodIn wsL_law wsL_field := goodIn_r _ [176, 177] (by decide +kernel) (by decide +kernel)
set_option maxRecDepth 20000 in
theorem gL_law_L_field : GoodIn wsL_law (va_wsS RL 35 yL_field wsL_field) := goodIn_app (goodIn_of _ (by decide +kernel)) ggL_law_L_field
set_option maxRecDepth 20000 in
theorem ggL_law_L_withField : GoodIn wsL_law wsL_withField := goodIn_r _ [371, 177, 368, 189] (by decide +kernel) (by decide +kernel)
set_option maxRecDepth 20000 in
theorem gL_law_L_withField : GoodIn wsL_law (va_wsS RL 45 yL_withField wsL_withField) := goodIn_app (goodIn_of _ (by decide +kernel)) ggL_law_L_withField
set_option maxRecDepth 20000 in
theorem ggL_law_L_adds : GoodIn wsL_law wsL_adds := goodIn_r _ [374] (by decide +kernel) (by decide +kernel)
set_option maxRecDepth 20000 in
theorem gL_law_L_adds : GoodIn wsL_law (va_wsS RL 153 yL_adds wsL_adds) := goodIn_app (goodIn_of _ (by decide +kernel)) ggL_law_L_adds
set_option maxRecDepth 20000 in
theorem ggL_law_L_makes : GoodIn wsL_law wsL_makes := goodIn_r _ [377, 368, 378, 379, 111, 380, 381, 382, 383, 384, 140, 141, 142, 170, 171, 172, 173, 365, 366, 367, 174, 175, 176, 177, 186, 187, 188, 189, 385, 386, 387, 369, 370, 371, 388, 389, 390] (by decide +kernel) (by decide +kernel)
set_option maxRecDepth 20000 in
theorem gL_law_L_makes : GoodIn wsL_law (va_wsS RL 157 yL_makes wsL_makes) := goodIn_app (goodIn_of _ (by decide +kernel)) ggL_law_L_makes
set_option maxRecDepth 20000 in
theorem ggL_law_L_isKept : GoodIn wsL_law wsL_isKept := goodIn_r _ [387] (by decide +kernel) (by decide +kernel)
set_option maxRecDepth 20000 in
theorem gL_law_L_isKept : GoodIn wsL_law (va_wsS RL 41 yL_isKept wsL_isKept) := goodIn_app (goodIn_of _ (by decide +kernel)) ggL_law_L_isKept
set_option maxRecDepth 20000 in
theorem ggL_law_L_protects : GoodIn wsL_law wsL_protects := goodIn_ca (goodIn_ca (goodIn_r _ [393, 287, 289, 394, 395, 396, 2, 397, 24, 28, 162, 163, 164, 165, 155, 156, 147, 130, 131, 27, 132, 99, 133, 134, 135, 36, 136, 48, 152, 153, 154, 332, 333, 334, 335, 294, 295, 336, 337, 338, 23, 339, 91, 92, 323, 324, 325, 326, 87, 88, 89, 90, 327, 54, 55, 56, 271, 272, 273, 274, 104, 129, 211, 167, 168, 63, 169, 76, 77, 79, 258, 259, 260, 261, 398, 399, 400, 401, 402, 419, 420, 421, 422, 423, 424, 425, 426, 413, 414, 415, 416, 417, 418, 427, 428, 429] (by decide +kernel) (by decide +kernel)) (goodIn_sub (fun _ h => List.mem_append_left _ (List.mem_append_left _ (List.mem_append_right _ h))) (by decide +kernel))) (goodIn_sub (fun _ h => List.mem_append_left _ (List.mem_append_right _ h)) (by decide +kernel))
set_option maxRecDepth 20000 in
theorem gL_law_L_protects : GoodIn wsL_law (va_wsS RL 161 yL_protects wsL_protects) := goodIn_app (goodIn_of _ (by decide +kernel)) ggL_law_L_protects
set_option maxRecDepth 20000 in
theorem ggL_law_L_many : GoodIn wsL_law wsL_many := goodIn_r _ [139, 140, 141, 111, 142] (by decide +kernel) (by decide +kernel)
set_option maxRecDepth 20000 in
theorem gL_law_L_many : GoodIn wsL_law (va_wsS RL 106 yL_many wsL_many) := goodIn_app (goodIn_of _ (by decide +kernel)) ggL_law_L_many
theorem dL_law_0 : decode cL_law 0 = .ok (.new 58, 3) := by decide +kernel
theorem dL_law_3 : decode cL_law 3 = .ok (.dup, 1) := by decide +kernel
theorem dL_law_4 : decode cL_law 4 = .ok (.invokespecial 138, 3) := by decide +kernel
theorem dL_law_7 : decode cL_law 7 = .ok (.astore_n 1, 1) := by decide +kernel
theorem dL_law_8 : decode cL_law 8 = .ok (.bipush 40, 2) := by decide +kernel
theorem dL_law_10 : decode cL_law 10 = .ok (.newarray .long, 2) := by decide +kernel
theorem dL_law_12 : decode cL_law 12 = .ok (.astore_n 2, 1) := by decide +kernel
theorem dL_law_13 : decode cL_law 13 = .ok (.bipush 40, 2) := by decide +kernel
theorem dL_law_15 : decode cL_law 15 = .ok (.newarray .int, 2) := by decide +kernel
theorem dL_law_17 : decode cL_law 17 = .ok (.astore_n 3, 1) := by decide +kernel
theorem dL_law_18 : decode cL_law 18 = .ok (.bipush 64, 2) := by decide +kernel
theorem dL_law_20 : decode cL_law 20 = .ok (.newarray .int, 2) := by decide +kernel
theorem dL_law_22 : decode cL_law 22 = .ok (.astore 4, 2) := by decide +kernel
theorem dL_law_24 : decode cL_law 24 = .ok (.bipush 40, 2) := by decide +kernel
theorem dL_law_26 : decode cL_law 26 = .ok (.newarray .long, 2) := by decide +kernel
theorem dL_law_28 : decode cL_law 28 = .ok (.astore 5, 2) := by decide +kernel
theorem dL_law_30 : decode cL_law 30 = .ok (.bipush 40, 2) := by decide +kernel
theorem dL_law_32 : decode cL_law 32 = .ok (.newarray .int, 2) := by decide +kernel
theorem dL_law_34 : decode cL_law 34 = .ok (.astore 6, 2) := by decide +kernel
theorem dL_law_36 : decode cL_law 36 = .ok (.bipush 40, 2) := by decide +kernel
theorem dL_law_38 : decode cL_law 38 = .ok (.newarray .int, 2) := by decide +kernel
theorem dL_law_40 : decode cL_law 40 = .ok (.astore 7, 2) := by decide +kernel
theorem dL_law_42 : decode cL_law 42 = .ok (.iconst 4, 1) := by decide +kernel
theorem dL_law_43 : decode cL_law 43 = .ok (.newarray .int, 2) := by decide +kernel
theorem dL_law_45 : decode cL_law 45 = .ok (.astore 8, 2) := by decide +kernel
theorem dL_law_47 : decode cL_law 47 = .ok (.iconst 1, 1) := by decide +kernel
theorem dL_law_48 : decode cL_law 48 = .ok (.newarray .int, 2) := by decide +kernel
theorem dL_law_50 : decode cL_law 50 = .ok (.astore 9, 2) := by decide +kernel
theorem dL_law_52 : decode cL_law 52 = .ok (.bipush 12, 2) := by decide +kernel
theorem dL_law_54 : decode cL_law 54 = .ok (.newarray .int, 2) := by decide +kernel
theorem dL_law_56 : decode cL_law 56 = .ok (.astore 10, 2) := by decide +kernel
theorem dL_law_58 : decode cL_law 58 = .ok (.lconst 0, 1) := by decide +kernel
theorem dL_law_59 : decode cL_law 59 = .ok (.lstore 11, 2) := by decide +kernel
theorem dL_law_61 : decode cL_law 61 = .ok (.iconst 0, 1) := by decide +kernel
theorem dL_law_62 : decode cL_law 62 = .ok (.istore 13, 2) := by decide +kernel
theorem dL_law_64 : decode cL_law 64 = .ok (.iload 13, 2) := by decide +kernel
theorem dL_law_66 : decode cL_law 66 = .ok (.iconst 5, 1) := by decide +kernel
theorem dL_law_67 : decode cL_law 67 = .ok (.if_icmp .ge 16, 3) := by decide +kernel
theorem dL_law_70 : decode cL_law 70 = .ok (.aload 10, 2) := by decide +kernel
theorem dL_law_72 : decode cL_law 72 = .ok (.iload 13, 2) := by decide +kernel
theorem dL_law_74 : decode cL_law 74 = .ok (.iload 13, 2) := by decide +kernel
theorem dL_law_76 : decode cL_law 76 = .ok (.iastore, 1) := by decide +kernel
theorem dL_law_77 : decode cL_law 77 = .ok (.iinc 13 1, 3) := by decide +kernel
theorem dL_law_80 : decode cL_law 80 = .ok (.goto (-16), 3) := by decide +kernel
theorem dL_law_83 : decode cL_law 83 = .ok (.iconst 0, 1) := by decide +kernel
theorem dL_law_84 : decode cL_law 84 = .ok (.istore 13, 2) := by decide +kernel
theorem dL_law_86 : decode cL_law 86 = .ok (.iload 13, 2) := by decide +kernel
theorem dL_law_88 : decode cL_law 88 = .ok (.iconst 4, 1) := by decide +kernel
theorem dL_law_89 : decode cL_law 89 = .ok (.if_icmp .ge 17, 3) := by decide +kernel
theorem dL_law_92 : decode cL_law 92 = .ok (.aload 10, 2) := by decide +kernel
theorem dL_law_94 : decode cL_law 94 = .ok (.iconst 5, 1) := by decide +kernel
theorem dL_law_95 : decode cL_law 95 = .ok (.iload 13, 2) := by decide +kernel
theorem dL_law_97 : decode cL_law 97 = .ok (.iadd, 1) := by decide +kernel
theorem dL_law_98 : decode cL_law 98 = .ok (.iconst 1, 1) := by decide +kernel
theorem dL_law_99 : decode cL_law 99 = .ok (.iastore, 1) := by decide +kernel
theorem dL_law_100 : decode cL_law 100 = .ok (.iinc 13 1, 3) := by decide +kernel
theorem dL_law_103 : decode cL_law 103 = .ok (.goto (-17), 3) := by decide +kernel
theorem dL_law_106 : decode cL_law 106 = .ok (.aload 10, 2) := by decide +kernel
theorem dL_law_108 : decode cL_law 108 = .ok (.bipush 10, 2) := by decide +kernel
theorem dL_law_110 : decode cL_law 110 = .ok (.iconst 1, 1) := by decide +kernel
theorem dL_law_111 : decode cL_law 111 = .ok (.iastore, 1) := by decide +kernel
theorem dL_law_112 : decode cL_law 112 = .ok (.aload 10, 2) := by decide +kernel
theorem dL_law_114 : decode cL_law 114 = .ok (.bipush 11, 2) := by decide +kernel
theorem dL_law_116 : decode cL_law 116 = .ok (.iconst 2, 1) := by decide +kernel
theorem dL_law_117 : decode cL_law 117 = .ok (.iastore, 1) := by decide +kernel
theorem dL_law_118 : decode cL_law 118 = .ok (.aload_n 1, 1) := by decide +kernel
theorem dL_law_119 : decode cL_law 119 = .ok (.aload_n 2, 1) := by decide +kernel
theorem dL_law_120 : decode cL_law 120 = .ok (.aload_n 3, 1) := by decide +kernel
theorem dL_law_121 : decode cL_law 121 = .ok (.aload 8, 2) := by decide +kernel
theorem dL_law_123 : decode cL_law 123 = .ok (.aload 7, 2) := by decide +kernel
theorem dL_law_125 : decode cL_law 125 = .ok (.aload 9, 2) := by decide +kernel
theorem dL_law_127 : decode cL_law 127 = .ok (.invokestatic 139, 3) := by decide +kernel
theorem dL_law_130 : decode cL_law 130 = .ok (.istore 13, 2) := by decide +kernel
theorem dL_law_132 : decode cL_law 132 = .ok (.iconst 0, 1) := by decide +kernel
theorem dL_law_133 : decode cL_law 133 = .ok (.istore 14, 2) := by decide +kernel
theorem dL_law_135 : decode cL_law 135 = .ok (.iload 14, 2) := by decide +kernel
theorem dL_law_137 : decode cL_law 137 = .ok (.sipush 130, 3) := by decide +kernel
theorem dL_law_140 : decode cL_law 140 = .ok (.if_icmp .ge 1415, 3) := by decide +kernel
theorem dL_law_143 : decode cL_law 143 = .ok (.iload 13, 2) := by decide +kernel
theorem dL_law_145 : decode cL_law 145 = .ok (.ifCond .eq 1410, 3) := by decide +kernel
theorem dL_law_148 : decode cL_law 148 = .ok (.iload 14, 2) := by decide +kernel
theorem dL_law_150 : decode cL_law 150 = .ok (.aload_n 0, 1) := by decide +kernel
theorem dL_law_151 : decode cL_law 151 = .ok (.arraylength, 1) := by decide +kernel
theorem dL_law_152 : decode cL_law 152 = .ok (.if_icmp .ge 13, 3) := by decide +kernel
theorem dL_law_155 : decode cL_law 155 = .ok (.aload_n 0, 1) := by decide +kernel
theorem dL_law_156 : decode cL_law 156 = .ok (.iload 14, 2) := by decide +kernel
theorem dL_law_158 : decode cL_law 158 = .ok (.iaload, 1) := by decide +kernel
theorem dL_law_159 : decode cL_law 159 = .ok (.ldc 143, 2) := by decide +kernel
theorem dL_law_161 : decode cL_law 161 = .ok (.iand, 1) := by decide +kernel
theorem dL_law_162 : decode cL_law 162 = .ok (.goto 24, 3) := by decide +kernel
theorem dL_law_165 : decode cL_law 165 = .ok (.ldc 144, 2) := by decide +kernel
theorem dL_law_167 : decode cL_law 167 = .ok (.iload 14, 2) := by decide +kernel
theorem dL_law_169 : decode cL_law 169 = .ok (.imul, 1) := by decide +kernel
theorem dL_law_170 : decode cL_law 170 = .ok (.iload 14, 2) := by decide +kernel
theorem dL_law_172 : decode cL_law 172 = .ok (.imul, 1) := by decide +kernel
theorem dL_law_173 : decode cL_law 173 = .ok (.sipush 8009, 3) := by decide +kernel
theorem dL_law_176 : decode cL_law 176 = .ok (.iload 14, 2) := by decide +kernel
theorem dL_law_178 : decode cL_law 178 = .ok (.imul, 1) := by decide +kernel
theorem dL_law_179 : decode cL_law 179 = .ok (.iadd, 1) := by decide +kernel
theorem dL_law_180 : decode cL_law 180 = .ok (.bipush 71, 2) := by decide +kernel
theorem dL_law_182 : decode cL_law 182 = .ok (.iadd, 1) := by decide +kernel
theorem dL_law_183 : decode cL_law 183 = .ok (.ldc 143, 2) := by decide +kernel
theorem dL_law_185 : decode cL_law 185 = .ok (.iand, 1) := by decide +kernel
theorem dL_law_186 : decode cL_law 186 = .ok (.istore 15, 2) := by decide +kernel
theorem dL_law_188 : decode cL_law 188 = .ok (.iload 14, 2) := by decide +kernel
theorem dL_law_190 : decode cL_law 190 = .ok (.bipush 6, 2) := by decide +kernel
theorem dL_law_192 : decode cL_law 192 = .ok (.if_icmp .ne 7, 3) := by decide +kernel
theorem dL_law_195 : decode cL_law 195 = .ok (.iconst 4, 1) := by decide +kernel
theorem dL_law_196 : decode cL_law 196 = .ok (.goto 24, 3) := by decide +kernel
theorem dL_law_199 : decode cL_law 199 = .ok (.iload 14, 2) := by decide +kernel
theorem dL_law_201 : decode cL_law 201 = .ok (.bipush 6, 2) := by decide +kernel
theorem dL_law_203 : decode cL_law 203 = .ok (.if_icmp .ge 10, 3) := by decide +kernel
theorem dL_law_206 : decode cL_law 206 = .ok (.iload 15, 2) := by decide +kernel
theorem dL_law_208 : decode cL_law 208 = .ok (.iconst 3, 1) := by decide +kernel
theorem dL_law_209 : decode cL_law 209 = .ok (.irem, 1) := by decide +kernel
theorem dL_law_210 : decode cL_law 210 = .ok (.goto 10, 3) := by decide +kernel
theorem dL_law_213 : decode cL_law 213 = .ok (.iconst 3, 1) := by decide +kernel
theorem dL_law_214 : decode cL_law 214 = .ok (.iload 15, 2) := by decide +kernel
theorem dL_law_216 : decode cL_law 216 = .ok (.bipush 22, 2) := by decide +kernel
theorem dL_law_218 : decode cL_law 218 = .ok (.irem, 1) := by decide +kernel
theorem dL_law_219 : decode cL_law 219 = .ok (.iadd, 1) := by decide +kernel
theorem dL_law_220 : decode cL_law 220 = .ok (.istore 16, 2) := by decide +kernel
theorem dL_law_222 : decode cL_law 222 = .ok (.iload 15, 2) := by decide +kernel
theorem dL_law_224 : decode cL_law 224 = .ok (.bipush 22, 2) := by decide +kernel
theorem dL_law_226 : decode cL_law 226 = .ok (.idiv, 1) := by decide +kernel
theorem dL_law_227 : decode cL_law 227 = .ok (.istore 17, 2) := by decide +kernel
theorem dL_law_229 : decode cL_law 229 = .ok (.aload 8, 2) := by decide +kernel
theorem dL_law_231 : decode cL_law 231 = .ok (.iconst 1, 1) := by decide +kernel
theorem dL_law_232 : decode cL_law 232 = .ok (.iaload, 1) := by decide +kernel
theorem dL_law_233 : decode cL_law 233 = .ok (.ifCond .ne 7, 3) := by decide +kernel
theorem dL_law_236 : decode cL_law 236 = .ok (.iconst 0, 1) := by decide +kernel
theorem dL_law_237 : decode cL_law 237 = .ok (.goto 10, 3) := by decide +kernel
theorem dL_law_240 : decode cL_law 240 = .ok (.iload 17, 2) := by decide +kernel
theorem dL_law_242 : decode cL_law 242 = .ok (.aload 8, 2) := by decide +kernel
theorem dL_law_244 : decode cL_law 244 = .ok (.iconst 1, 1) := by decide +kernel
theorem dL_law_245 : decode cL_law 245 = .ok (.iaload, 1) := by decide +kernel
theorem dL_law_246 : decode cL_law 246 = .ok (.irem, 1) := by decide +kernel
theorem dL_law_247 : decode cL_law 247 = .ok (.istore 18, 2) := by decide +kernel
theorem dL_law_249 : decode cL_law 249 = .ok (.iconst 0, 1) := by decide +kernel
theorem dL_law_250 : decode cL_law 250 = .ok (.istore 19, 2) := by decide +kernel
theorem dL_law_252 : decode cL_law 252 = .ok (.iload 19, 2) := by decide +kernel
theorem dL_law_254 : decode cL_law 254 = .ok (.aload 8, 2) := by decide +kernel
theorem dL_law_256 : decode cL_law 256 = .ok (.iconst 1, 1) := by decide +kernel
theorem dL_law_257 : decode cL_law 257 = .ok (.iaload, 1) := by decide +kernel
theorem dL_law_258 : decode cL_law 258 = .ok (.if_icmp .ge 37, 3) := by decide +kernel
theorem dL_law_261 : decode cL_law 261 = .ok (.iload 17, 2) := by decide +kernel
theorem dL_law_263 : decode cL_law 263 = .ok (.iconst 5, 1) := by decide +kernel
theorem dL_law_264 : decode cL_law 264 = .ok (.irem, 1) := by decide +kernel
theorem dL_law_265 : decode cL_law 265 = .ok (.ifCond .le 30, 3) := by decide +kernel
theorem dL_law_268 : decode cL_law 268 = .ok (.aload_n 2, 1) := by decide +kernel
theorem dL_law_269 : decode cL_law 269 = .ok (.iload 18, 2) := by decide +kernel
theorem dL_law_271 : decode cL_law 271 = .ok (.laload, 1) := by decide +kernel
theorem dL_law_272 : decode cL_law 272 = .ok (.invokestatic 15, 3) := by decide +kernel
theorem dL_law_275 : decode cL_law 275 = .ok (.ifCond .ne 20, 3) := by decide +kernel
theorem dL_law_278 : decode cL_law 278 = .ok (.iload 18, 2) := by decide +kernel
theorem dL_law_280 : decode cL_law 280 = .ok (.iconst 1, 1) := by decide +kernel
theorem dL_law_281 : decode cL_law 281 = .ok (.iadd, 1) := by decide +kernel
theorem dL_law_282 : decode cL_law 282 = .ok (.aload 8, 2) := by decide +kernel
theorem dL_law_284 : decode cL_law 284 = .ok (.iconst 1, 1) := by decide +kernel
theorem dL_law_285 : decode cL_law 285 = .ok (.iaload, 1) := by decide +kernel
theorem dL_law_286 : decode cL_law 286 = .ok (.irem, 1) := by decide +kernel
theorem dL_law_287 : decode cL_law 287 = .ok (.istore 18, 2) := by decide +kernel
theorem dL_law_289 : decode cL_law 289 = .ok (.iinc 19 1, 3) := by decide +kernel
theorem dL_law_292 : decode cL_law 292 = .ok (.goto (-40), 3) := by decide +kernel
theorem dL_law_295 : decode cL_law 295 = .ok (.iload 16, 2) := by decide +kernel
theorem dL_law_297 : decode cL_law 297 = .ok (.ifCond .ne 54, 3) := by decide +kernel
theorem dL_law_300 : decode cL_law 300 = .ok (.aload_n 1, 1) := by decide +kernel
theorem dL_law_301 : decode cL_law 301 = .ok (.bipush 7, 2) := by decide +kernel
theorem dL_law_303 : decode cL_law 303 = .ok (.iload 17, 2) := by decide +kernel
theorem dL_law_305 : decode cL_law 305 = .ok (.iconst 5, 1) := by decide +kernel
theorem dL_law_306 : decode cL_law 306 = .ok (.irem, 1) := by decide +kernel
theorem dL_law_307 : decode cL_law 307 = .ok (.iload 17, 2) := by decide +kernel
theorem dL_law_309 : decode cL_law 309 = .ok (.iconst 5, 1) := by decide +kernel
theorem dL_law_310 : decode cL_law 310 = .ok (.idiv, 1) := by decide +kernel
theorem dL_law_311 : decode cL_law 311 = .ok (.bipush 10, 2) := by decide +kernel
theorem dL_law_313 : decode cL_law 313 = .ok (.irem, 1) := by decide +kernel
theorem dL_law_314 : decode cL_law 314 = .ok (.invokestatic 145, 3) := by decide +kernel
theorem dL_law_317 : decode cL_law 317 = .ok (.aload 10, 2) := by decide +kernel
theorem dL_law_319 : decode cL_law 319 = .ok (.iload 17, 2) := by decide +kernel
theorem dL_law_321 : decode cL_law 321 = .ok (.iconst 5, 1) := by decide +kernel
theorem dL_law_322 : decode cL_law 322 = .ok (.irem, 1) := by decide +kernel
theorem dL_law_323 : decode cL_law 323 = .ok (.iaload, 1) := by decide +kernel
theorem dL_law_324 : decode cL_law 324 = .ok (.if_icmp .ne 7, 3) := by decide +kernel
theorem dL_law_327 : decode cL_law 327 = .ok (.iconst 1, 1) := by decide +kernel
theorem dL_law_328 : decode cL_law 328 = .ok (.goto 4, 3) := by decide +kernel
theorem dL_law_331 : decode cL_law 331 = .ok (.iconst 0, 1) := by decide +kernel
theorem dL_law_332 : decode cL_law 332 = .ok (.istore 13, 2) := by decide +kernel
theorem dL_law_334 : decode cL_law 334 = .ok (.aload 10, 2) := by decide +kernel
theorem dL_law_336 : decode cL_law 336 = .ok (.iload 17, 2) := by decide +kernel
theorem dL_law_338 : decode cL_law 338 = .ok (.iconst 5, 1) := by decide +kernel
theorem dL_law_339 : decode cL_law 339 = .ok (.irem, 1) := by decide +kernel
theorem dL_law_340 : decode cL_law 340 = .ok (.iload 17, 2) := by decide +kernel
theorem dL_law_342 : decode cL_law 342 = .ok (.iconst 5, 1) := by decide +kernel
theorem dL_law_343 : decode cL_law 343 = .ok (.idiv, 1) := by decide +kernel
theorem dL_law_344 : decode cL_law 344 = .ok (.bipush 10, 2) := by decide +kernel
theorem dL_law_346 : decode cL_law 346 = .ok (.irem, 1) := by decide +kernel
theorem dL_law_347 : decode cL_law 347 = .ok (.iastore, 1) := by decide +kernel
theorem dL_law_348 : decode cL_law 348 = .ok (.goto 1174, 3) := by decide +kernel
theorem dL_law_351 : decode cL_law 351 = .ok (.iload 16, 2) := by decide +kernel
theorem dL_law_353 : decode cL_law 353 = .ok (.iconst 1, 1) := by decide +kernel
theorem dL_law_354 : decode cL_law 354 = .ok (.if_icmp .ne 56, 3) := by decide +kernel
theorem dL_law_357 : decode cL_law 357 = .ok (.aload_n 1, 1) := by decide +kernel
theorem dL_law_358 : decode cL_law 358 = .ok (.bipush 8, 2) := by decide +kernel
theorem dL_law_360 : decode cL_law 360 = .ok (.iload 17, 2) := by decide +kernel
theorem dL_law_362 : decode cL_law 362 = .ok (.iconst 4, 1) := by decide +kernel
theorem dL_law_363 : decode cL_law 363 = .ok (.irem, 1) := by decide +kernel
theorem dL_law_364 : decode cL_law 364 = .ok (.iload 17, 2) := by decide +kernel
theorem dL_law_366 : decode cL_law 366 = .ok (.iconst 4, 1) := by decide +kernel
theorem dL_law_367 : decode cL_law 367 = .ok (.idiv, 1) := by decide +kernel
theorem dL_law_368 : decode cL_law 368 = .ok (.iconst 3, 1) := by decide +kernel
theorem dL_law_369 : decode cL_law 369 = .ok (.irem, 1) := by decide +kernel
theorem dL_law_370 : decode cL_law 370 = .ok (.invokestatic 145, 3) := by decide +kernel
theorem dL_law_373 : decode cL_law 373 = .ok (.aload 10, 2) := by decide +kernel
theorem dL_law_375 : decode cL_law 375 = .ok (.iconst 5, 1) := by decide +kernel
theorem dL_law_376 : decode cL_law 376 = .ok (.iload 17, 2) := by decide +kernel
theorem dL_law_378 : decode cL_law 378 = .ok (.iconst 4, 1) := by decide +kernel
theorem dL_law_379 : decode cL_law 379 = .ok (.irem, 1) := by decide +kernel
theorem dL_law_380 : decode cL_law 380 = .ok (.iadd, 1) := by decide +kernel
theorem dL_law_381 : decode cL_law 381 = .ok (.iaload, 1) := by decide +kernel
theorem dL_law_382 : decode cL_law 382 = .ok (.if_icmp .ne 7, 3) := by decide +kernel
theorem dL_law_385 : decode cL_law 385 = .ok (.iconst 1, 1) := by decide +kernel
theorem dL_law_386 : decode cL_law 386 = .ok (.goto 4, 3) := by decide +kernel
theorem dL_law_389 : decode cL_law 389 = .ok (.iconst 0, 1) := by decide +kernel
theorem dL_law_390 : decode cL_law 390 = .ok (.istore 13, 2) := by decide +kernel
theorem dL_law_392 : decode cL_law 392 = .ok (.aload 10, 2) := by decide +kernel
theorem dL_law_394 : decode cL_law 394 = .ok (.iconst 5, 1) := by decide +kernel
theorem dL_law_395 : decode cL_law 395 = .ok (.iload 17, 2) := by decide +kernel
theorem dL_law_397 : decode cL_law 397 = .ok (.iconst 4, 1) := by decide +kernel
theorem dL_law_398 : decode cL_law 398 = .ok (.irem, 1) := by decide +kernel
theorem dL_law_399 : decode cL_law 399 = .ok (.iadd, 1) := by decide +kernel
theorem dL_law_400 : decode cL_law 400 = .ok (.iload 17, 2) := by decide +kernel
theorem dL_law_402 : decode cL_law 402 = .ok (.iconst 4, 1) := by decide +kernel
theorem dL_law_403 : decode cL_law 403 = .ok (.idiv, 1) := by decide +kernel
theorem dL_law_404 : decode cL_law 404 = .ok (.iconst 3, 1) := by decide +kernel
theorem dL_law_405 : decode cL_law 405 = .ok (.irem, 1) := by decide +kernel
theorem dL_law_406 : decode cL_law 406 = .ok (.iastore, 1) := by decide +kernel
theorem dL_law_407 : decode cL_law 407 = .ok (.goto 1115, 3) := by decide +kernel
theorem dL_law_410 : decode cL_law 410 = .ok (.iload 16, 2) := by decide +kernel
theorem dL_law_412 : decode cL_law 412 = .ok (.iconst 2, 1) := by decide +kernel
theorem dL_law_413 : decode cL_law 413 = .ok (.if_icmp .ne 68, 3) := by decide +kernel
theorem dL_law_416 : decode cL_law 416 = .ok (.iload 17, 2) := by decide +kernel
theorem dL_law_418 : decode cL_law 418 = .ok (.iconst 3, 1) := by decide +kernel
theorem dL_law_419 : decode cL_law 419 = .ok (.irem, 1) := by decide +kernel
theorem dL_law_420 : decode cL_law 420 = .ok (.istore 19, 2) := by decide +kernel
theorem dL_law_422 : decode cL_law 422 = .ok (.iload 19, 2) := by decide +kernel
theorem dL_law_424 : decode cL_law 424 = .ok (.iconst 1, 1) := by decide +kernel
theorem dL_law_425 : decode cL_law 425 = .ok (.iadd, 1) := by decide +kernel
theorem dL_law_426 : decode cL_law 426 = .ok (.iload 17, 2) := by decide +kernel
theorem dL_law_428 : decode cL_law 428 = .ok (.iconst 3, 1) := by decide +kernel
theorem dL_law_429 : decode cL_law 429 = .ok (.idiv, 1) := by decide +kernel
theorem dL_law_430 : decode cL_law 430 = .ok (.iconst 2, 1) := by decide +kernel
theorem dL_law_431 : decode cL_law 431 = .ok (.irem, 1) := by decide +kernel
theorem dL_law_432 : decode cL_law 432 = .ok (.iadd, 1) := by decide +kernel
theorem dL_law_433 : decode cL_law 433 = .ok (.iconst 3, 1) := by decide +kernel
theorem dL_law_434 : decode cL_law 434 = .ok (.irem, 1) := by decide +kernel
theorem dL_law_435 : decode cL_law 435 = .ok (.istore 20, 2) := by decide +kernel
theorem dL_law_437 : decode cL_law 437 = .ok (.aload_n 1, 1) := by decide +kernel
theorem dL_law_438 : decode cL_law 438 = .ok (.iload 19, 2) := by decide +kernel
theorem dL_law_440 : decode cL_law 440 = .ok (.iload 20, 2) := by decide +kernel
theorem dL_law_442 : decode cL_law 442 = .ok (.iconst 3, 1) := by decide +kernel
theorem dL_law_443 : decode cL_law 443 = .ok (.iload 19, 2) := by decide +kernel
theorem dL_law_445 : decode cL_law 445 = .ok (.isub, 1) := by decide +kernel
theorem dL_law_446 : decode cL_law 446 = .ok (.iload 20, 2) := by decide +kernel
theorem dL_law_448 : decode cL_law 448 = .ok (.isub, 1) := by decide +kernel
theorem dL_law_449 : decode cL_law 449 = .ok (.invokevirtual 149, 3) := by decide +kernel
theorem dL_law_452 : decode cL_law 452 = .ok (.aload 10, 2) := by decide +kernel
theorem dL_law_454 : decode cL_law 454 = .ok (.bipush 9, 2) := by decide +kernel
theorem dL_law_456 : decode cL_law 456 = .ok (.iload 19, 2) := by decide +kernel
theorem dL_law_458 : decode cL_law 458 = .ok (.iastore, 1) := by decide +kernel
theorem dL_law_459 : decode cL_law 459 = .ok (.aload 10, 2) := by decide +kernel
theorem dL_law_461 : decode cL_law 461 = .ok (.bipush 10, 2) := by decide +kernel
theorem dL_law_463 : decode cL_law 463 = .ok (.iload 20, 2) := by decide +kernel
theorem dL_law_465 : decode cL_law 465 = .ok (.iastore, 1) := by decide +kernel
theorem dL_law_466 : decode cL_law 466 = .ok (.aload 10, 2) := by decide +kernel
theorem dL_law_468 : decode cL_law 468 = .ok (.bipush 11, 2) := by decide +kernel
theorem dL_law_470 : decode cL_law 470 = .ok (.iconst 3, 1) := by decide +kernel
theorem dL_law_471 : decode cL_law 471 = .ok (.iload 19, 2) := by decide +kernel
theorem dL_law_473 : decode cL_law 473 = .ok (.isub, 1) := by decide +kernel
theorem dL_law_474 : decode cL_law 474 = .ok (.iload 20, 2) := by decide +kernel
theorem dL_law_476 : decode cL_law 476 = .ok (.isub, 1) := by decide +kernel
theorem dL_law_477 : decode cL_law 477 = .ok (.iastore, 1) := by decide +kernel
theorem dL_law_478 : decode cL_law 478 = .ok (.goto 1044, 3) := by decide +kernel
theorem dL_law_481 : decode cL_law 481 = .ok (.iload 16, 2) := by decide +kernel
theorem dL_law_483 : decode cL_law 483 = .ok (.iconst 3, 1) := by decide +kernel
theorem dL_law_484 : decode cL_law 484 = .ok (.if_icmp .ne 83, 3) := by decide +kernel
theorem dL_law_487 : decode cL_law 487 = .ok (.aload_n 1, 1) := by decide +kernel
theorem dL_law_488 : decode cL_law 488 = .ok (.bipush 7, 2) := by decide +kernel
theorem dL_law_490 : decode cL_law 490 = .ok (.iload 17, 2) := by decide +kernel
theorem dL_law_492 : decode cL_law 492 = .ok (.iconst 5, 1) := by decide +kernel
theorem dL_law_493 : decode cL_law 493 = .ok (.irem, 1) := by decide +kernel
theorem dL_law_494 : decode cL_law 494 = .ok (.iload 17, 2) := by decide +kernel
theorem dL_law_496 : decode cL_law 496 = .ok (.iconst 5, 1) := by decide +kernel
theorem dL_law_497 : decode cL_law 497 = .ok (.idiv, 1) := by decide +kernel
theorem dL_law_498 : decode cL_law 498 = .ok (.bipush 10, 2) := by decide +kernel
theorem dL_law_500 : decode cL_law 500 = .ok (.irem, 1) := by decide +kernel
theorem dL_law_501 : decode cL_law 501 = .ok (.invokestatic 145, 3) := by decide +kernel
theorem dL_law_504 : decode cL_law 504 = .ok (.aload 8, 2) := by decide +kernel
theorem dL_law_506 : decode cL_law 506 = .ok (.iconst 1, 1) := by decide +kernel
theorem dL_law_507 : decode cL_law 507 = .ok (.iaload, 1) := by decide +kernel
theorem dL_law_508 : decode cL_law 508 = .ok (.ifCond .le 8, 3) := by decide +kernel
theorem dL_law_511 : decode cL_law 511 = .ok (.bipush (-13), 2) := by decide +kernel
theorem dL_law_513 : decode cL_law 513 = .ok (.goto 10, 3) := by decide +kernel
theorem dL_law_516 : decode cL_law 516 = .ok (.aload 10, 2) := by decide +kernel
theorem dL_law_518 : decode cL_law 518 = .ok (.iload 17, 2) := by decide +kernel
theorem dL_law_520 : decode cL_law 520 = .ok (.iconst 5, 1) := by decide +kernel
theorem dL_law_521 : decode cL_law 521 = .ok (.irem, 1) := by decide +kernel
theorem dL_law_522 : decode cL_law 522 = .ok (.iaload, 1) := by decide +kernel
theorem dL_law_523 : decode cL_law 523 = .ok (.if_icmp .ne 7, 3) := by decide +kernel
theorem dL_law_526 : decode cL_law 526 = .ok (.iconst 1, 1) := by decide +kernel
theorem dL_law_527 : decode cL_law 527 = .ok (.goto 4, 3) := by decide +kernel
theorem dL_law_530 : decode cL_law 530 = .ok (.iconst 0, 1) := by decide +kernel
theorem dL_law_531 : decode cL_law 531 = .ok (.istore 13, 2) := by decide +kernel
theorem dL_law_533 : decode cL_law 533 = .ok (.aload 10, 2) := by decide +kernel
theorem dL_law_535 : decode cL_law 535 = .ok (.iload 17, 2) := by decide +kernel
theorem dL_law_537 : decode cL_law 537 = .ok (.iconst 5, 1) := by decide +kernel
theorem dL_law_538 : decode cL_law 538 = .ok (.irem, 1) := by decide +kernel
theorem dL_law_539 : decode cL_law 539 = .ok (.aload 8, 2) := by decide +kernel
theorem dL_law_541 : decode cL_law 541 = .ok (.iconst 1, 1) := by decide +kernel
theorem dL_law_542 : decode cL_law 542 = .ok (.iaload, 1) := by decide +kernel
theorem dL_law_543 : decode cL_law 543 = .ok (.ifCond .le 13, 3) := by decide +kernel
theorem dL_law_546 : decode cL_law 546 = .ok (.aload 10, 2) := by decide +kernel
theorem dL_law_548 : decode cL_law 548 = .ok (.iload 17, 2) := by decide +kernel
theorem dL_law_550 : decode cL_law 550 = .ok (.iconst 5, 1) := by decide +kernel
theorem dL_law_551 : decode cL_law 551 = .ok (.irem, 1) := by decide +kernel
theorem dL_law_552 : decode cL_law 552 = .ok (.iaload, 1) := by decide +kernel
theorem dL_law_553 : decode cL_law 553 = .ok (.goto 10, 3) := by decide +kernel
theorem dL_law_556 : decode cL_law 556 = .ok (.iload 17, 2) := by decide +kernel
theorem dL_law_558 : decode cL_law 558 = .ok (.iconst 5, 1) := by decide +kernel
theorem dL_law_559 : decode cL_law 559 = .ok (.idiv, 1) := by decide +kernel
theorem dL_law_560 : decode cL_law 560 = .ok (.bipush 10, 2) := by decide +kernel
theorem dL_law_562 : decode cL_law 562 = .ok (.irem, 1) := by decide +kernel
theorem dL_law_563 : decode cL_law 563 = .ok (.iastore, 1) := by decide +kernel
theorem dL_law_564 : decode cL_law 564 = .ok (.goto 958, 3) := by decide +kernel
theorem dL_law_567 : decode cL_law 567 = .ok (.iload 16, 2) := by decide +kernel
theorem dL_law_569 : decode cL_law 569 = .ok (.iconst 4, 1) := by decide +kernel
theorem dL_law_570 : decode cL_law 570 = .ok (.if_icmp .ne 62, 3) := by decide +kernel
theorem dL_law_573 : decode cL_law 573 = .ok (.aload_n 1, 1) := by decide +kernel
theorem dL_law_574 : decode cL_law 574 = .ok (.iconst 0, 1) := by decide +kernel
theorem dL_law_575 : decode cL_law 575 = .ok (.iconst 0, 1) := by decide +kernel
theorem dL_law_576 : decode cL_law 576 = .ok (.iconst 0, 1) := by decide +kernel
theorem dL_law_577 : decode cL_law 577 = .ok (.invokestatic 145, 3) := by decide +kernel
theorem dL_law_580 : decode cL_law 580 = .ok (.aload 8, 2) := by decide +kernel
theorem dL_law_582 : decode cL_law 582 = .ok (.iconst 0, 1) := by decide +kernel
theorem dL_law_583 : decode cL_law 583 = .ok (.iaload, 1) := by decide +kernel
theorem dL_law_584 : decode cL_law 584 = .ok (.bipush 10, 2) := by decide +kernel
theorem dL_law_586 : decode cL_law 586 = .ok (.if_icmp .ne 8, 3) := by decide +kernel
theorem dL_law_589 : decode cL_law 589 = .ok (.bipush (-13), 2) := by decide +kernel
theorem dL_law_591 : decode cL_law 591 = .ok (.goto 7, 3) := by decide +kernel
theorem dL_law_594 : decode cL_law 594 = .ok (.aload 8, 2) := by decide +kernel
theorem dL_law_596 : decode cL_law 596 = .ok (.iconst 0, 1) := by decide +kernel
theorem dL_law_597 : decode cL_law 597 = .ok (.iaload, 1) := by decide +kernel
theorem dL_law_598 : decode cL_law 598 = .ok (.if_icmp .ne 7, 3) := by decide +kernel
theorem dL_law_601 : decode cL_law 601 = .ok (.iconst 1, 1) := by decide +kernel
theorem dL_law_602 : decode cL_law 602 = .ok (.goto 4, 3) := by decide +kernel
theorem dL_law_605 : decode cL_law 605 = .ok (.iconst 0, 1) := by decide +kernel
theorem dL_law_606 : decode cL_law 606 = .ok (.istore 13, 2) := by decide +kernel
theorem dL_law_608 : decode cL_law 608 = .ok (.aload 8, 2) := by decide +kernel
theorem dL_law_610 : decode cL_law 610 = .ok (.iconst 0, 1) := by decide +kernel
theorem dL_law_611 : decode cL_law 611 = .ok (.dup2, 1) := by decide +kernel
theorem dL_law_612 : decode cL_law 612 = .ok (.iaload, 1) := by decide +kernel
theorem dL_law_613 : decode cL_law 613 = .ok (.aload 8, 2) := by decide +kernel
theorem dL_law_615 : decode cL_law 615 = .ok (.iconst 0, 1) := by decide +kernel
theorem dL_law_616 : decode cL_law 616 = .ok (.iaload, 1) := by decide +kernel
theorem dL_law_617 : decode cL_law 617 = .ok (.bipush 10, 2) := by decide +kernel
theorem dL_law_619 : decode cL_law 619 = .ok (.if_icmp .ne 7, 3) := by decide +kernel
theorem dL_law_622 : decode cL_law 622 = .ok (.iconst 0, 1) := by decide +kernel
theorem dL_law_623 : decode cL_law 623 = .ok (.goto 4, 3) := by decide +kernel
theorem dL_law_626 : decode cL_law 626 = .ok (.iconst 1, 1) := by decide +kernel
theorem dL_law_627 : decode cL_law 627 = .ok (.iadd, 1) := by decide +kernel
theorem dL_law_628 : decode cL_law 628 = .ok (.iastore, 1) := by decide +kernel
theorem dL_law_629 : decode cL_law 629 = .ok (.goto 893, 3) := by decide +kernel
theorem dL_law_632 : decode cL_law 632 = .ok (.iload 16, 2) := by decide +kernel
theorem dL_law_634 : decode cL_law 634 = .ok (.bipush 9, 2) := by decide +kernel
theorem dL_law_636 : decode cL_law 636 = .ok (.if_icmp .ge 75, 3) := by decide +kernel
theorem dL_law_639 : decode cL_law 639 = .ok (.iload 17, 2) := by decide +kernel
theorem dL_law_641 : decode cL_law 641 = .ok (.iconst 3, 1) := by decide +kernel
theorem dL_law_642 : decode cL_law 642 = .ok (.idiv, 1) := by decide +kernel
theorem dL_law_643 : decode cL_law 643 = .ok (.iconst 5, 1) := by decide +kernel
theorem dL_law_644 : decode cL_law 644 = .ok (.irem, 1) := by decide +kernel
theorem dL_law_645 : decode cL_law 645 = .ok (.ifCond .ne 7, 3) := by decide +kernel
theorem dL_law_648 : decode cL_law 648 = .ok (.iconst (-1), 1) := by decide +kernel
theorem dL_law_649 : decode cL_law 649 = .ok (.goto 10, 3) := by decide +kernel
theorem dL_law_652 : decode cL_law 652 = .ok (.iload 17, 2) := by decide +kernel
theorem dL_law_654 : decode cL_law 654 = .ok (.bipush 15, 2) := by decide +kernel
theorem dL_law_656 : decode cL_law 656 = .ok (.idiv, 1) := by decide +kernel
theorem dL_law_657 : decode cL_law 657 = .ok (.iconst 5, 1) := by decide +kernel
theorem dL_law_658 : decode cL_law 658 = .ok (.irem, 1) := by decide +kernel
theorem dL_law_659 : decode cL_law 659 = .ok (.istore 19, 2) := by decide +kernel
theorem dL_law_661 : decode cL_law 661 = .ok (.aload_n 1, 1) := by decide +kernel
theorem dL_law_662 : decode cL_law 662 = .ok (.iconst 1, 1) := by decide +kernel
theorem dL_law_663 : decode cL_law 663 = .ok (.iload 17, 2) := by decide +kernel
theorem dL_law_665 : decode cL_law 665 = .ok (.iconst 3, 1) := by decide +kernel
theorem dL_law_666 : decode cL_law 666 = .ok (.irem, 1) := by decide +kernel
theorem dL_law_667 : decode cL_law 667 = .ok (.iload 19, 2) := by decide +kernel
theorem dL_law_669 : decode cL_law 669 = .ok (.invokestatic 145, 3) := by decide +kernel
theorem dL_law_672 : decode cL_law 672 = .ok (.lload 11, 2) := by decide +kernel
theorem dL_law_674 : decode cL_law 674 = .ok (.iload 17, 2) := by decide +kernel
theorem dL_law_676 : decode cL_law 676 = .ok (.iconst 3, 1) := by decide +kernel
theorem dL_law_677 : decode cL_law 677 = .ok (.irem, 1) := by decide +kernel
theorem dL_law_678 : decode cL_law 678 = .ok (.invokestatic 21, 3) := by decide +kernel
theorem dL_law_681 : decode cL_law 681 = .ok (.iconst 1, 1) := by decide +kernel
theorem dL_law_682 : decode cL_law 682 = .ok (.isub, 1) := by decide +kernel
theorem dL_law_683 : decode cL_law 683 = .ok (.if_icmp .ne 7, 3) := by decide +kernel
theorem dL_law_686 : decode cL_law 686 = .ok (.iconst 1, 1) := by decide +kernel
theorem dL_law_687 : decode cL_law 687 = .ok (.goto 4, 3) := by decide +kernel
theorem dL_law_690 : decode cL_law 690 = .ok (.iconst 0, 1) := by decide +kernel
theorem dL_law_691 : decode cL_law 691 = .ok (.istore 13, 2) := by decide +kernel
theorem dL_law_693 : decode cL_law 693 = .ok (.lload 11, 2) := by decide +kernel
theorem dL_law_695 : decode cL_law 695 = .ok (.iload 17, 2) := by decide +kernel
theorem dL_law_697 : decode cL_law 697 = .ok (.iconst 3, 1) := by decide +kernel
theorem dL_law_698 : decode cL_law 698 = .ok (.irem, 1) := by decide +kernel
theorem dL_law_699 : decode cL_law 699 = .ok (.iload 19, 2) := by decide +kernel
theorem dL_law_701 : decode cL_law 701 = .ok (.iconst 1, 1) := by decide +kernel
theorem dL_law_702 : decode cL_law 702 = .ok (.iadd, 1) := by decide +kernel
theorem dL_law_703 : decode cL_law 703 = .ok (.invokestatic 31, 3) := by decide +kernel
theorem dL_law_706 : decode cL_law 706 = .ok (.lstore 11, 2) := by decide +kernel
theorem dL_law_708 : decode cL_law 708 = .ok (.goto 814, 3) := by decide +kernel
theorem dL_law_711 : decode cL_law 711 = .ok (.iload 16, 2) := by decide +kernel
theorem dL_law_713 : decode cL_law 713 = .ok (.bipush 12, 2) := by decide +kernel
theorem dL_law_715 : decode cL_law 715 = .ok (.if_icmp .ge 78, 3) := by decide +kernel
theorem dL_law_718 : decode cL_law 718 = .ok (.iload 17, 2) := by decide +kernel
theorem dL_law_720 : decode cL_law 720 = .ok (.iconst 4, 1) := by decide +kernel
theorem dL_law_721 : decode cL_law 721 = .ok (.idiv, 1) := by decide +kernel
theorem dL_law_722 : decode cL_law 722 = .ok (.bipush 6, 2) := by decide +kernel
theorem dL_law_724 : decode cL_law 724 = .ok (.irem, 1) := by decide +kernel
theorem dL_law_725 : decode cL_law 725 = .ok (.ifCond .ne 7, 3) := by decide +kernel
theorem dL_law_728 : decode cL_law 728 = .ok (.iconst (-1), 1) := by decide +kernel
theorem dL_law_729 : decode cL_law 729 = .ok (.goto 11, 3) := by decide +kernel
theorem dL_law_732 : decode cL_law 732 = .ok (.iload 17, 2) := by decide +kernel
theorem dL_law_734 : decode cL_law 734 = .ok (.bipush 24, 2) := by decide +kernel
theorem dL_law_736 : decode cL_law 736 = .ok (.idiv, 1) := by decide +kernel
theorem dL_law_737 : decode cL_law 737 = .ok (.bipush 100, 2) := by decide +kernel
theorem dL_law_739 : decode cL_law 739 = .ok (.irem, 1) := by decide +kernel
theorem dL_law_740 : decode cL_law 740 = .ok (.istore 19, 2) := by decide +kernel
theorem dL_law_742 : decode cL_law 742 = .ok (.aload_n 1, 1) := by decide +kernel
theorem dL_law_743 : decode cL_law 743 = .ok (.iconst 2, 1) := by decide +kernel
theorem dL_law_744 : decode cL_law 744 = .ok (.iload 17, 2) := by decide +kernel
theorem dL_law_746 : decode cL_law 746 = .ok (.iconst 4, 1) := by decide +kernel
theorem dL_law_747 : decode cL_law 747 = .ok (.irem, 1) := by decide +kernel
theorem dL_law_748 : decode cL_law 748 = .ok (.iload 19, 2) := by decide +kernel
theorem dL_law_750 : decode cL_law 750 = .ok (.invokestatic 145, 3) := by decide +kernel
theorem dL_law_753 : decode cL_law 753 = .ok (.lload 11, 2) := by decide +kernel
theorem dL_law_755 : decode cL_law 755 = .ok (.iload 17, 2) := by decide +kernel
theorem dL_law_757 : decode cL_law 757 = .ok (.iconst 4, 1) := by decide +kernel
theorem dL_law_758 : decode cL_law 758 = .ok (.irem, 1) := by decide +kernel
theorem dL_law_759 : decode cL_law 759 = .ok (.invokestatic 35, 3) := by decide +kernel
theorem dL_law_762 : decode cL_law 762 = .ok (.iconst 1, 1) := by decide +kernel
theorem dL_law_763 : decode cL_law 763 = .ok (.isub, 1) := by decide +kernel
theorem dL_law_764 : decode cL_law 764 = .ok (.if_icmp .ne 7, 3) := by decide +kernel
theorem dL_law_767 : decode cL_law 767 = .ok (.iconst 1, 1) := by decide +kernel
theorem dL_law_768 : decode cL_law 768 = .ok (.goto 4, 3) := by decide +kernel
theorem dL_law_771 : decode cL_law 771 = .ok (.iconst 0, 1) := by decide +kernel
theorem dL_law_772 : decode cL_law 772 = .ok (.istore 13, 2) := by decide +kernel
theorem dL_law_774 : decode cL_law 774 = .ok (.lload 11, 2) := by decide +kernel
theorem dL_law_776 : decode cL_law 776 = .ok (.iload 17, 2) := by decide +kernel
theorem dL_law_778 : decode cL_law 778 = .ok (.iconst 4, 1) := by decide +kernel
theorem dL_law_779 : decode cL_law 779 = .ok (.irem, 1) := by decide +kernel
theorem dL_law_780 : decode cL_law 780 = .ok (.iload 19, 2) := by decide +kernel
theorem dL_law_782 : decode cL_law 782 = .ok (.iconst 1, 1) := by decide +kernel
theorem dL_law_783 : decode cL_law 783 = .ok (.iadd, 1) := by decide +kernel
theorem dL_law_784 : decode cL_law 784 = .ok (.iconst 0, 1) := by decide +kernel
theorem dL_law_785 : decode cL_law 785 = .ok (.invokestatic 45, 3) := by decide +kernel
theorem dL_law_788 : decode cL_law 788 = .ok (.lstore 11, 2) := by decide +kernel
theorem dL_law_790 : decode cL_law 790 = .ok (.goto 732, 3) := by decide +kernel
theorem dL_law_793 : decode cL_law 793 = .ok (.iload 16, 2) := by decide +kernel
theorem dL_law_795 : decode cL_law 795 = .ok (.bipush 18, 2) := by decide +kernel
theorem dL_law_797 : decode cL_law 797 = .ok (.if_icmp .ge 188, 3) := by decide +kernel
theorem dL_law_800 : decode cL_law 800 = .ok (.aload 8, 2) := by decide +kernel
theorem dL_law_802 : decode cL_law 802 = .ok (.iconst 1, 1) := by decide +kernel
theorem dL_law_803 : decode cL_law 803 = .ok (.iaload, 1) := by decide +kernel
theorem dL_law_804 : decode cL_law 804 = .ok (.bipush 40, 2) := by decide +kernel
theorem dL_law_806 : decode cL_law 806 = .ok (.if_icmp .ge 179, 3) := by decide +kernel
theorem dL_law_809 : decode cL_law 809 = .ok (.aload 8, 2) := by decide +kernel
theorem dL_law_811 : decode cL_law 811 = .ok (.iconst 2, 1) := by decide +kernel
theorem dL_law_812 : decode cL_law 812 = .ok (.iaload, 1) := by decide +kernel
theorem dL_law_813 : decode cL_law 813 = .ok (.bipush 64, 2) := by decide +kernel
theorem dL_law_815 : decode cL_law 815 = .ok (.if_icmp .ge 170, 3) := by decide +kernel
theorem dL_law_818 : decode cL_law 818 = .ok (.bipush (-13), 2) := by decide +kernel
theorem dL_law_820 : decode cL_law 820 = .ok (.istore 19, 2) := by decide +kernel
theorem dL_law_822 : decode cL_law 822 = .ok (.aload 8, 2) := by decide +kernel
theorem dL_law_824 : decode cL_law 824 = .ok (.iconst 0, 1) := by decide +kernel
theorem dL_law_825 : decode cL_law 825 = .ok (.iaload, 1) := by decide +kernel
theorem dL_law_826 : decode cL_law 826 = .ok (.ifCond .le 134, 3) := by decide +kernel
theorem dL_law_829 : decode cL_law 829 = .ok (.aload 8, 2) := by decide +kernel
theorem dL_law_831 : decode cL_law 831 = .ok (.iconst 1, 1) := by decide +kernel
theorem dL_law_832 : decode cL_law 832 = .ok (.iaload, 1) := by decide +kernel
theorem dL_law_833 : decode cL_law 833 = .ok (.istore 20, 2) := by decide +kernel
theorem dL_law_835 : decode cL_law 835 = .ok (.iload 17, 2) := by decide +kernel
theorem dL_law_837 : decode cL_law 837 = .ok (.iconst 5, 1) := by decide +kernel
theorem dL_law_838 : decode cL_law 838 = .ok (.irem, 1) := by decide +kernel
theorem dL_law_839 : decode cL_law 839 = .ok (.istore 21, 2) := by decide +kernel
theorem dL_law_841 : decode cL_law 841 = .ok (.iconst 0, 1) := by decide +kernel
theorem dL_law_842 : decode cL_law 842 = .ok (.istore 22, 2) := by decide +kernel
theorem dL_law_844 : decode cL_law 844 = .ok (.iload 22, 2) := by decide +kernel
theorem dL_law_846 : decode cL_law 846 = .ok (.iconst 4, 1) := by decide +kernel
theorem dL_law_847 : decode cL_law 847 = .ok (.if_icmp .ge 41, 3) := by decide +kernel
theorem dL_law_850 : decode cL_law 850 = .ok (.lload 11, 2) := by decide +kernel
theorem dL_law_852 : decode cL_law 852 = .ok (.iload 22, 2) := by decide +kernel
theorem dL_law_854 : decode cL_law 854 = .ok (.lload 11, 2) := by decide +kernel
theorem dL_law_856 : decode cL_law 856 = .ok (.iload 22, 2) := by decide +kernel
theorem dL_law_858 : decode cL_law 858 = .ok (.invokestatic 35, 3) := by decide +kernel
theorem dL_law_861 : decode cL_law 861 = .ok (.lload 11, 2) := by decide +kernel
theorem dL_law_863 : decode cL_law 863 = .ok (.iload 22, 2) := by decide +kernel
theorem dL_law_865 : decode cL_law 865 = .ok (.invokestatic 35, 3) := by decide +kernel
theorem dL_law_868 : decode cL_law 868 = .ok (.ifCond .le 8, 3) := by decide +kernel
theorem dL_law_871 : decode cL_law 871 = .ok (.iload 21, 2) := by decide +kernel
theorem dL_law_873 : decode cL_law 873 = .ok (.goto 4, 3) := by decide +kernel
theorem dL_law_876 : decode cL_law 876 = .ok (.iconst 0, 1) := by decide +kernel
theorem dL_law_877 : decode cL_law 877 = .ok (.invokestatic 45, 3) := by decide +kernel
theorem dL_law_880 : decode cL_law 880 = .ok (.lstore 11, 2) := by decide +kernel
theorem dL_law_882 : decode cL_law 882 = .ok (.iinc 22 1, 3) := by decide +kernel
theorem dL_law_885 : decode cL_law 885 = .ok (.goto (-41), 3) := by decide +kernel
theorem dL_law_888 : decode cL_law 888 = .ok (.aload 5, 2) := by decide +kernel
theorem dL_law_890 : decode cL_law 890 = .ok (.iload 20, 2) := by decide +kernel
theorem dL_law_892 : decode cL_law 892 = .ok (.lload 11, 2) := by decide +kernel
theorem dL_law_894 : decode cL_law 894 = .ok (.lastore, 1) := by decide +kernel
theorem dL_law_895 : decode cL_law 895 = .ok (.aload 6, 2) := by decide +kernel
theorem dL_law_897 : decode cL_law 897 = .ok (.iload 20, 2) := by decide +kernel
theorem dL_law_899 : decode cL_law 899 = .ok (.aload 8, 2) := by decide +kernel
theorem dL_law_901 : decode cL_law 901 = .ok (.iconst 0, 1) := by decide +kernel
theorem dL_law_902 : decode cL_law 902 = .ok (.iaload, 1) := by decide +kernel
theorem dL_law_903 : decode cL_law 903 = .ok (.iconst 1, 1) := by decide +kernel
theorem dL_law_904 : decode cL_law 904 = .ok (.isub, 1) := by decide +kernel
theorem dL_law_905 : decode cL_law 905 = .ok (.bipush 16, 2) := by decide +kernel
theorem dL_law_907 : decode cL_law 907 = .ok (.iload 21, 2) := by decide +kernel
theorem dL_law_909 : decode cL_law 909 = .ok (.imul, 1) := by decide +kernel
theorem dL_law_910 : decode cL_law 910 = .ok (.iadd, 1) := by decide +kernel
theorem dL_law_911 : decode cL_law 911 = .ok (.iastore, 1) := by decide +kernel
theorem dL_law_912 : decode cL_law 912 = .ok (.lconst 0, 1) := by decide +kernel
theorem dL_law_913 : decode cL_law 913 = .ok (.lstore 11, 2) := by decide +kernel
theorem dL_law_915 : decode cL_law 915 = .ok (.aload 8, 2) := by decide +kernel
theorem dL_law_917 : decode cL_law 917 = .ok (.iconst 1, 1) := by decide +kernel
theorem dL_law_918 : decode cL_law 918 = .ok (.dup2, 1) := by decide +kernel
theorem dL_law_919 : decode cL_law 919 = .ok (.iaload, 1) := by decide +kernel
theorem dL_law_920 : decode cL_law 920 = .ok (.iconst 1, 1) := by decide +kernel
theorem dL_law_921 : decode cL_law 921 = .ok (.iadd, 1) := by decide +kernel
theorem dL_law_922 : decode cL_law 922 = .ok (.iastore, 1) := by decide +kernel
theorem dL_law_923 : decode cL_law 923 = .ok (.aload 4, 2) := by decide +kernel
theorem dL_law_925 : decode cL_law 925 = .ok (.aload 8, 2) := by decide +kernel
theorem dL_law_927 : decode cL_law 927 = .ok (.iconst 0, 1) := by decide +kernel
theorem dL_law_928 : decode cL_law 928 = .ok (.iload 20, 2) := by decide +kernel
theorem dL_law_930 : decode cL_law 930 = .ok (.iconst 0, 1) := by decide +kernel
theorem dL_law_931 : decode cL_law 931 = .ok (.invokestatic 153, 3) := by decide +kernel
theorem dL_law_934 : decode cL_law 934 = .ok (.aload_n 2, 1) := by decide +kernel
theorem dL_law_935 : decode cL_law 935 = .ok (.aload_n 3, 1) := by decide +kernel
theorem dL_law_936 : decode cL_law 936 = .ok (.aload 4, 2) := by decide +kernel
theorem dL_law_938 : decode cL_law 938 = .ok (.aload 8, 2) := by decide +kernel
theorem dL_law_940 : decode cL_law 940 = .ok (.aload 10, 2) := by decide +kernel
theorem dL_law_942 : decode cL_law 942 = .ok (.aload 5, 2) := by decide +kernel
theorem dL_law_944 : decode cL_law 944 = .ok (.aload 6, 2) := by decide +kernel
theorem dL_law_946 : decode cL_law 946 = .ok (.aload 7, 2) := by decide +kernel
theorem dL_law_948 : decode cL_law 948 = .ok (.aload 9, 2) := by decide +kernel
theorem dL_law_950 : decode cL_law 950 = .ok (.invokestatic 157, 3) := by decide +kernel
theorem dL_law_953 : decode cL_law 953 = .ok (.aload 7, 2) := by decide +kernel
theorem dL_law_955 : decode cL_law 955 = .ok (.iload 20, 2) := by decide +kernel
theorem dL_law_957 : decode cL_law 957 = .ok (.iaload, 1) := by decide +kernel
theorem dL_law_958 : decode cL_law 958 = .ok (.istore 19, 2) := by decide +kernel
theorem dL_law_960 : decode cL_law 960 = .ok (.aload_n 1, 1) := by decide +kernel
theorem dL_law_961 : decode cL_law 961 = .ok (.iconst 3, 1) := by decide +kernel
theorem dL_law_962 : decode cL_law 962 = .ok (.iload 17, 2) := by decide +kernel
theorem dL_law_964 : decode cL_law 964 = .ok (.iconst 5, 1) := by decide +kernel
theorem dL_law_965 : decode cL_law 965 = .ok (.irem, 1) := by decide +kernel
theorem dL_law_966 : decode cL_law 966 = .ok (.iconst 0, 1) := by decide +kernel
theorem dL_law_967 : decode cL_law 967 = .ok (.invokestatic 145, 3) := by decide +kernel
theorem dL_law_970 : decode cL_law 970 = .ok (.iload 19, 2) := by decide +kernel
theorem dL_law_972 : decode cL_law 972 = .ok (.if_icmp .ne 7, 3) := by decide +kernel
theorem dL_law_975 : decode cL_law 975 = .ok (.iconst 1, 1) := by decide +kernel
theorem dL_law_976 : decode cL_law 976 = .ok (.goto 4, 3) := by decide +kernel
theorem dL_law_979 : decode cL_law 979 = .ok (.iconst 0, 1) := by decide +kernel
theorem dL_law_980 : decode cL_law 980 = .ok (.istore 13, 2) := by decide +kernel
theorem dL_law_982 : decode cL_law 982 = .ok (.goto 540, 3) := by decide +kernel
theorem dL_law_985 : decode cL_law 985 = .ok (.iload 16, 2) := by decide +kernel
theorem dL_law_987 : decode cL_law 987 = .ok (.bipush 21, 2) := by decide +kernel
theorem dL_law_989 : decode cL_law 989 = .ok (.if_icmp .ge 209, 3) := by decide +kernel
theorem dL_law_992 : decode cL_law 992 = .ok (.aload 8, 2) := by decide +kernel
theorem dL_law_994 : decode cL_law 994 = .ok (.iconst 2, 1) := by decide +kernel
theorem dL_law_995 : decode cL_law 995 = .ok (.iaload, 1) := by decide +kernel
theorem dL_law_996 : decode cL_law 996 = .ok (.bipush 64, 2) := by decide +kernel
theorem dL_law_998 : decode cL_law 998 = .ok (.if_icmp .ge 200, 3) := by decide +kernel
theorem dL_law_1001 : decode cL_law 1001 = .ok (.iload 17, 2) := by decide +kernel
theorem dL_law_1003 : decode cL_law 1003 = .ok (.bipush 40, 2) := by decide +kernel
theorem dL_law_1005 : decode cL_law 1005 = .ok (.idiv, 1) := by decide +kernel
theorem dL_law_1006 : decode cL_law 1006 = .ok (.iconst 4, 1) := by decide +kernel
theorem dL_law_1007 : decode cL_law 1007 = .ok (.irem, 1) := by decide +kernel
theorem dL_law_1008 : decode cL_law 1008 = .ok (.istore 19, 2) := by decide +kernel
theorem dL_law_1010 : decode cL_law 1010 = .ok (.iload 17, 2) := by decide +kernel
theorem dL_law_1012 : decode cL_law 1012 = .ok (.sipush 160, 3) := by decide +kernel
theorem dL_law_1015 : decode cL_law 1015 = .ok (.idiv, 1) := by decide +kernel
theorem dL_law_1016 : decode cL_law 1016 = .ok (.iconst 3, 1) := by decide +kernel
theorem dL_law_1017 : decode cL_law 1017 = .ok (.irem, 1) := by decide +kernel
theorem dL_law_1018 : decode cL_law 1018 = .ok (.ifCond .le 7, 3) := by decide +kernel
theorem dL_law_1021 : decode cL_law 1021 = .ok (.iconst 1, 1) := by decide +kernel
theorem dL_law_1022 : decode cL_law 1022 = .ok (.goto 4, 3) := by decide +kernel
theorem dL_law_1025 : decode cL_law 1025 = .ok (.iconst 0, 1) := by decide +kernel
theorem dL_law_1026 : decode cL_law 1026 = .ok (.istore 20, 2) := by decide +kernel
theorem dL_law_1028 : decode cL_law 1028 = .ok (.aload_n 2, 1) := by decide +kernel
theorem dL_law_1029 : decode cL_law 1029 = .ok (.iload 18, 2) := by decide +kernel
theorem dL_law_1031 : decode cL_law 1031 = .ok (.laload, 1) := by decide +kernel
theorem dL_law_1032 : decode cL_law 1032 = .ok (.invokestatic 15, 3) := by decide +kernel
theorem dL_law_1035 : decode cL_law 1035 = .ok (.istore 21, 2) := by decide +kernel
theorem dL_law_1037 : decode cL_law 1037 = .ok (.aload_n 2, 1) := by decide +kernel
theorem dL_law_1038 : decode cL_law 1038 = .ok (.iload 18, 2) := by decide +kernel
theorem dL_law_1040 : decode cL_law 1040 = .ok (.laload, 1) := by decide +kernel
theorem dL_law_1041 : decode cL_law 1041 = .ok (.iload 19, 2) := by decide +kernel
theorem dL_law_1043 : decode cL_law 1043 = .ok (.invokestatic 41, 3) := by decide +kernel
theorem dL_law_1046 : decode cL_law 1046 = .ok (.ifCond .eq 7, 3) := by decide +kernel
theorem dL_law_1049 : decode cL_law 1049 = .ok (.iconst 1, 1) := by decide +kernel
theorem dL_law_1050 : decode cL_law 1050 = .ok (.goto 4, 3) := by decide +kernel
theorem dL_law_1053 : decode cL_law 1053 = .ok (.iconst 0, 1) := by decide +kernel
theorem dL_law_1054 : decode cL_law 1054 = .ok (.istore 22, 2) := by decide +kernel
theorem dL_law_1056 : decode cL_law 1056 = .ok (.iload 21, 2) := by decide +kernel
theorem dL_law_1058 : decode cL_law 1058 = .ok (.ifCond .eq 65, 3) := by decide +kernel
theorem dL_law_1061 : decode cL_law 1061 = .ok (.aload 4, 2) := by decide +kernel
theorem dL_law_1063 : decode cL_law 1063 = .ok (.aload 8, 2) := by decide +kernel
theorem dL_law_1065 : decode cL_law 1065 = .ok (.iload 16, 2) := by decide +kernel
theorem dL_law_1067 : decode cL_law 1067 = .ok (.bipush 18, 2) := by decide +kernel
theorem dL_law_1069 : decode cL_law 1069 = .ok (.if_icmp .ne 16, 3) := by decide +kernel
theorem dL_law_1072 : decode cL_law 1072 = .ok (.iload 20, 2) := by decide +kernel
theorem dL_law_1074 : decode cL_law 1074 = .ok (.ifCond .eq 7, 3) := by decide +kernel
theorem dL_law_1077 : decode cL_law 1077 = .ok (.iconst 1, 1) := by decide +kernel
theorem dL_law_1078 : decode cL_law 1078 = .ok (.goto 8, 3) := by decide +kernel
theorem dL_law_1081 : decode cL_law 1081 = .ok (.iconst 2, 1) := by decide +kernel
theorem dL_law_1082 : decode cL_law 1082 = .ok (.goto 4, 3) := by decide +kernel
theorem dL_law_1085 : decode cL_law 1085 = .ok (.iconst 3, 1) := by decide +kernel
theorem dL_law_1086 : decode cL_law 1086 = .ok (.iload 18, 2) := by decide +kernel
theorem dL_law_1088 : decode cL_law 1088 = .ok (.iload 16, 2) := by decide +kernel
theorem dL_law_1090 : decode cL_law 1090 = .ok (.bipush 18, 2) := by decide +kernel
theorem dL_law_1092 : decode cL_law 1092 = .ok (.if_icmp .ne 8, 3) := by decide +kernel
theorem dL_law_1095 : decode cL_law 1095 = .ok (.iload 19, 2) := by decide +kernel
theorem dL_law_1097 : decode cL_law 1097 = .ok (.goto 4, 3) := by decide +kernel
theorem dL_law_1100 : decode cL_law 1100 = .ok (.iconst 0, 1) := by decide +kernel
theorem dL_law_1101 : decode cL_law 1101 = .ok (.invokestatic 153, 3) := by decide +kernel
theorem dL_law_1104 : decode cL_law 1104 = .ok (.aload_n 2, 1) := by decide +kernel
theorem dL_law_1105 : decode cL_law 1105 = .ok (.aload_n 3, 1) := by decide +kernel
theorem dL_law_1106 : decode cL_law 1106 = .ok (.aload 4, 2) := by decide +kernel
theorem dL_law_1108 : decode cL_law 1108 = .ok (.aload 8, 2) := by decide +kernel
theorem dL_law_1110 : decode cL_law 1110 = .ok (.aload 10, 2) := by decide +kernel
theorem dL_law_1112 : decode cL_law 1112 = .ok (.aload 5, 2) := by decide +kernel
theorem dL_law_1114 : decode cL_law 1114 = .ok (.aload 6, 2) := by decide +kernel
theorem dL_law_1116 : decode cL_law 1116 = .ok (.aload 7, 2) := by decide +kernel
theorem dL_law_1118 : decode cL_law 1118 = .ok (.aload 9, 2) := by decide +kernel
theorem dL_law_1120 : decode cL_law 1120 = .ok (.invokestatic 157, 3) := by decide +kernel
theorem dL_law_1123 : decode cL_law 1123 = .ok (.iload 16, 2) := by decide +kernel
theorem dL_law_1125 : decode cL_law 1125 = .ok (.bipush 18, 2) := by decide +kernel
theorem dL_law_1127 : decode cL_law 1127 = .ok (.if_icmp .ne 36, 3) := by decide +kernel
theorem dL_law_1130 : decode cL_law 1130 = .ok (.aload_n 1, 1) := by decide +kernel
theorem dL_law_1131 : decode cL_law 1131 = .ok (.iload 18, 2) := by decide +kernel
theorem dL_law_1133 : decode cL_law 1133 = .ok (.iload 19, 2) := by decide +kernel
theorem dL_law_1135 : decode cL_law 1135 = .ok (.iload 20, 2) := by decide +kernel
theorem dL_law_1137 : decode cL_law 1137 = .ok (.invokestatic 161, 3) := by decide +kernel
theorem dL_law_1140 : decode cL_law 1140 = .ok (.iload 21, 2) := by decide +kernel
theorem dL_law_1142 : decode cL_law 1142 = .ok (.ifCond .eq 8, 3) := by decide +kernel
theorem dL_law_1145 : decode cL_law 1145 = .ok (.iload 22, 2) := by decide +kernel
theorem dL_law_1147 : decode cL_law 1147 = .ok (.goto 5, 3) := by decide +kernel
theorem dL_law_1150 : decode cL_law 1150 = .ok (.bipush (-11), 2) := by decide +kernel
theorem dL_law_1152 : decode cL_law 1152 = .ok (.if_icmp .ne 7, 3) := by decide +kernel
theorem dL_law_1155 : decode cL_law 1155 = .ok (.iconst 1, 1) := by decide +kernel
theorem dL_law_1156 : decode cL_law 1156 = .ok (.goto 37, 3) := by decide +kernel
theorem dL_law_1159 : decode cL_law 1159 = .ok (.iconst 0, 1) := by decide +kernel
theorem dL_law_1160 : decode cL_law 1160 = .ok (.goto 33, 3) := by decide +kernel
theorem dL_law_1163 : decode cL_law 1163 = .ok (.aload_n 1, 1) := by decide +kernel
theorem dL_law_1164 : decode cL_law 1164 = .ok (.iconst 4, 1) := by decide +kernel
theorem dL_law_1165 : decode cL_law 1165 = .ok (.iload 18, 2) := by decide +kernel
theorem dL_law_1167 : decode cL_law 1167 = .ok (.iconst 0, 1) := by decide +kernel
theorem dL_law_1168 : decode cL_law 1168 = .ok (.invokestatic 145, 3) := by decide +kernel
theorem dL_law_1171 : decode cL_law 1171 = .ok (.iload 21, 2) := by decide +kernel
theorem dL_law_1173 : decode cL_law 1173 = .ok (.ifCond .eq 10, 3) := by decide +kernel
theorem dL_law_1176 : decode cL_law 1176 = .ok (.aload_n 3, 1) := by decide +kernel
theorem dL_law_1177 : decode cL_law 1177 = .ok (.iload 18, 2) := by decide +kernel
theorem dL_law_1179 : decode cL_law 1179 = .ok (.iaload, 1) := by decide +kernel
theorem dL_law_1180 : decode cL_law 1180 = .ok (.goto 5, 3) := by decide +kernel
theorem dL_law_1183 : decode cL_law 1183 = .ok (.bipush (-11), 2) := by decide +kernel
theorem dL_law_1185 : decode cL_law 1185 = .ok (.if_icmp .ne 7, 3) := by decide +kernel
theorem dL_law_1188 : decode cL_law 1188 = .ok (.iconst 1, 1) := by decide +kernel
theorem dL_law_1189 : decode cL_law 1189 = .ok (.goto 4, 3) := by decide +kernel
theorem dL_law_1192 : decode cL_law 1192 = .ok (.iconst 0, 1) := by decide +kernel
theorem dL_law_1193 : decode cL_law 1193 = .ok (.istore 13, 2) := by decide +kernel
theorem dL_law_1195 : decode cL_law 1195 = .ok (.goto 327, 3) := by decide +kernel
theorem dL_law_1198 : decode cL_law 1198 = .ok (.iload 16, 2) := by decide +kernel
theorem dL_law_1200 : decode cL_law 1200 = .ok (.bipush 21, 2) := by decide +kernel
theorem dL_law_1202 : decode cL_law 1202 = .ok (.if_icmp .ne 153, 3) := by decide +kernel
theorem dL_law_1205 : decode cL_law 1205 = .ok (.aload 8, 2) := by decide +kernel
theorem dL_law_1207 : decode cL_law 1207 = .ok (.iconst 2, 1) := by decide +kernel
theorem dL_law_1208 : decode cL_law 1208 = .ok (.iaload, 1) := by decide +kernel
theorem dL_law_1209 : decode cL_law 1209 = .ok (.bipush 64, 2) := by decide +kernel
theorem dL_law_1211 : decode cL_law 1211 = .ok (.if_icmp .ge 144, 3) := by decide +kernel
theorem dL_law_1214 : decode cL_law 1214 = .ok (.aload 8, 2) := by decide +kernel
theorem dL_law_1216 : decode cL_law 1216 = .ok (.iconst 1, 1) := by decide +kernel
theorem dL_law_1217 : decode cL_law 1217 = .ok (.iaload, 1) := by decide +kernel
theorem dL_law_1218 : decode cL_law 1218 = .ok (.ifCond .ne 7, 3) := by decide +kernel
theorem dL_law_1221 : decode cL_law 1221 = .ok (.iconst 0, 1) := by decide +kernel
theorem dL_law_1222 : decode cL_law 1222 = .ok (.goto 13, 3) := by decide +kernel
theorem dL_law_1225 : decode cL_law 1225 = .ok (.iload 17, 2) := by decide +kernel
theorem dL_law_1227 : decode cL_law 1227 = .ok (.bipush 40, 2) := by decide +kernel
theorem dL_law_1229 : decode cL_law 1229 = .ok (.idiv, 1) := by decide +kernel
theorem dL_law_1230 : decode cL_law 1230 = .ok (.aload 8, 2) := by decide +kernel
theorem dL_law_1232 : decode cL_law 1232 = .ok (.iconst 1, 1) := by decide +kernel
theorem dL_law_1233 : decode cL_law 1233 = .ok (.iaload, 1) := by decide +kernel
theorem dL_law_1234 : decode cL_law 1234 = .ok (.irem, 1) := by decide +kernel
theorem dL_law_1235 : decode cL_law 1235 = .ok (.istore 19, 2) := by decide +kernel
theorem dL_law_1237 : decode cL_law 1237 = .ok (.aload_n 2, 1) := by decide +kernel
theorem dL_law_1238 : decode cL_law 1238 = .ok (.iload 18, 2) := by decide +kernel
theorem dL_law_1240 : decode cL_law 1240 = .ok (.laload, 1) := by decide +kernel
theorem dL_law_1241 : decode cL_law 1241 = .ok (.invokestatic 15, 3) := by decide +kernel
theorem dL_law_1244 : decode cL_law 1244 = .ok (.ifCond .eq 17, 3) := by decide +kernel
theorem dL_law_1247 : decode cL_law 1247 = .ok (.aload_n 2, 1) := by decide +kernel
theorem dL_law_1248 : decode cL_law 1248 = .ok (.iload 19, 2) := by decide +kernel
theorem dL_law_1250 : decode cL_law 1250 = .ok (.laload, 1) := by decide +kernel
theorem dL_law_1251 : decode cL_law 1251 = .ok (.invokestatic 15, 3) := by decide +kernel
theorem dL_law_1254 : decode cL_law 1254 = .ok (.ifCond .eq 7, 3) := by decide +kernel
theorem dL_law_1257 : decode cL_law 1257 = .ok (.iconst 1, 1) := by decide +kernel
theorem dL_law_1258 : decode cL_law 1258 = .ok (.goto 4, 3) := by decide +kernel
theorem dL_law_1261 : decode cL_law 1261 = .ok (.iconst 0, 1) := by decide +kernel
theorem dL_law_1262 : decode cL_law 1262 = .ok (.istore 20, 2) := by decide +kernel
theorem dL_law_1264 : decode cL_law 1264 = .ok (.iload 20, 2) := by decide +kernel
theorem dL_law_1266 : decode cL_law 1266 = .ok (.ifCond .eq 41, 3) := by decide +kernel
theorem dL_law_1269 : decode cL_law 1269 = .ok (.iload 18, 2) := by decide +kernel
theorem dL_law_1271 : decode cL_law 1271 = .ok (.iload 19, 2) := by decide +kernel
theorem dL_law_1273 : decode cL_law 1273 = .ok (.if_icmp .eq 34, 3) := by decide +kernel
theorem dL_law_1276 : decode cL_law 1276 = .ok (.aload 4, 2) := by decide +kernel
theorem dL_law_1278 : decode cL_law 1278 = .ok (.aload 8, 2) := by decide +kernel
theorem dL_law_1280 : decode cL_law 1280 = .ok (.iconst 4, 1) := by decide +kernel
theorem dL_law_1281 : decode cL_law 1281 = .ok (.iload 18, 2) := by decide +kernel
theorem dL_law_1283 : decode cL_law 1283 = .ok (.iload 19, 2) := by decide +kernel
theorem dL_law_1285 : decode cL_law 1285 = .ok (.invokestatic 153, 3) := by decide +kernel
theorem dL_law_1288 : decode cL_law 1288 = .ok (.aload_n 2, 1) := by decide +kernel
theorem dL_law_1289 : decode cL_law 1289 = .ok (.aload_n 3, 1) := by decide +kernel
theorem dL_law_1290 : decode cL_law 1290 = .ok (.aload 4, 2) := by decide +kernel
theorem dL_law_1292 : decode cL_law 1292 = .ok (.aload 8, 2) := by decide +kernel
theorem dL_law_1294 : decode cL_law 1294 = .ok (.aload 10, 2) := by decide +kernel
theorem dL_law_1296 : decode cL_law 1296 = .ok (.aload 5, 2) := by decide +kernel
theorem dL_law_1298 : decode cL_law 1298 = .ok (.aload 6, 2) := by decide +kernel
theorem dL_law_1300 : decode cL_law 1300 = .ok (.aload 7, 2) := by decide +kernel
theorem dL_law_1302 : decode cL_law 1302 = .ok (.aload 9, 2) := by decide +kernel
theorem dL_law_1304 : decode cL_law 1304 = .ok (.invokestatic 157, 3) := by decide +kernel
theorem dL_law_1307 : decode cL_law 1307 = .ok (.aload_n 1, 1) := by decide +kernel
theorem dL_law_1308 : decode cL_law 1308 = .ok (.iconst 5, 1) := by decide +kernel
theorem dL_law_1309 : decode cL_law 1309 = .ok (.iload 18, 2) := by decide +kernel
theorem dL_law_1311 : decode cL_law 1311 = .ok (.iload 19, 2) := by decide +kernel
theorem dL_law_1313 : decode cL_law 1313 = .ok (.invokestatic 145, 3) := by decide +kernel
theorem dL_law_1316 : decode cL_law 1316 = .ok (.iload 20, 2) := by decide +kernel
theorem dL_law_1318 : decode cL_law 1318 = .ok (.ifCond .ne 8, 3) := by decide +kernel
theorem dL_law_1321 : decode cL_law 1321 = .ok (.bipush (-11), 2) := by decide +kernel
theorem dL_law_1323 : decode cL_law 1323 = .ok (.goto 19, 3) := by decide +kernel
theorem dL_law_1326 : decode cL_law 1326 = .ok (.iload 18, 2) := by decide +kernel
theorem dL_law_1328 : decode cL_law 1328 = .ok (.iload 19, 2) := by decide +kernel
theorem dL_law_1330 : decode cL_law 1330 = .ok (.if_icmp .ne 8, 3) := by decide +kernel
theorem dL_law_1333 : decode cL_law 1333 = .ok (.bipush (-12), 2) := by decide +kernel
theorem dL_law_1335 : decode cL_law 1335 = .ok (.goto 7, 3) := by decide +kernel
theorem dL_law_1338 : decode cL_law 1338 = .ok (.aload_n 3, 1) := by decide +kernel
theorem dL_law_1339 : decode cL_law 1339 = .ok (.iload 19, 2) := by decide +kernel
theorem dL_law_1341 : decode cL_law 1341 = .ok (.iaload, 1) := by decide +kernel
theorem dL_law_1342 : decode cL_law 1342 = .ok (.if_icmp .ne 7, 3) := by decide +kernel
theorem dL_law_1345 : decode cL_law 1345 = .ok (.iconst 1, 1) := by decide +kernel
theorem dL_law_1346 : decode cL_law 1346 = .ok (.goto 4, 3) := by decide +kernel
theorem dL_law_1349 : decode cL_law 1349 = .ok (.iconst 0, 1) := by decide +kernel
theorem dL_law_1350 : decode cL_law 1350 = .ok (.istore 13, 2) := by decide +kernel
theorem dL_law_1352 : decode cL_law 1352 = .ok (.goto 170, 3) := by decide +kernel
theorem dL_law_1355 : decode cL_law 1355 = .ok (.aload 8, 2) := by decide +kernel
theorem dL_law_1357 : decode cL_law 1357 = .ok (.iconst 0, 1) := by decide +kernel
theorem dL_law_1358 : decode cL_law 1358 = .ok (.iaload, 1) := by decide +kernel
theorem dL_law_1359 : decode cL_law 1359 = .ok (.ifCond .ne 7, 3) := by decide +kernel
theorem dL_law_1362 : decode cL_law 1362 = .ok (.iconst 0, 1) := by decide +kernel
theorem dL_law_1363 : decode cL_law 1363 = .ok (.goto 10, 3) := by decide +kernel
theorem dL_law_1366 : decode cL_law 1366 = .ok (.iload 17, 2) := by decide +kernel
theorem dL_law_1368 : decode cL_law 1368 = .ok (.aload 8, 2) := by decide +kernel
theorem dL_law_1370 : decode cL_law 1370 = .ok (.iconst 0, 1) := by decide +kernel
theorem dL_law_1371 : decode cL_law 1371 = .ok (.iaload, 1) := by decide +kernel
theorem dL_law_1372 : decode cL_law 1372 = .ok (.irem, 1) := by decide +kernel
theorem dL_law_1373 : decode cL_law 1373 = .ok (.istore 19, 2) := by decide +kernel
theorem dL_law_1375 : decode cL_law 1375 = .ok (.aload 9, 2) := by decide +kernel
theorem dL_law_1377 : decode cL_law 1377 = .ok (.iconst 0, 1) := by decide +kernel
theorem dL_law_1378 : decode cL_law 1378 = .ok (.iaload, 1) := by decide +kernel
theorem dL_law_1379 : decode cL_law 1379 = .ok (.iload 19, 2) := by decide +kernel
theorem dL_law_1381 : decode cL_law 1381 = .ok (.ishr, 1) := by decide +kernel
theorem dL_law_1382 : decode cL_law 1382 = .ok (.iconst 1, 1) := by decide +kernel
theorem dL_law_1383 : decode cL_law 1383 = .ok (.iand, 1) := by decide +kernel
theorem dL_law_1384 : decode cL_law 1384 = .ok (.iconst 1, 1) := by decide +kernel
theorem dL_law_1385 : decode cL_law 1385 = .ok (.if_icmp .ne 7, 3) := by decide +kernel
theorem dL_law_1388 : decode cL_law 1388 = .ok (.iconst 1, 1) := by decide +kernel
theorem dL_law_1389 : decode cL_law 1389 = .ok (.goto 4, 3) := by decide +kernel
theorem dL_law_1392 : decode cL_law 1392 = .ok (.iconst 0, 1) := by decide +kernel
theorem dL_law_1393 : decode cL_law 1393 = .ok (.istore 20, 2) := by decide +kernel
theorem dL_law_1395 : decode cL_law 1395 = .ok (.iload 17, 2) := by decide +kernel
theorem dL_law_1397 : decode cL_law 1397 = .ok (.bipush 10, 2) := by decide +kernel
theorem dL_law_1399 : decode cL_law 1399 = .ok (.idiv, 1) := by decide +kernel
theorem dL_law_1400 : decode cL_law 1400 = .ok (.iconst 4, 1) := by decide +kernel
theorem dL_law_1401 : decode cL_law 1401 = .ok (.irem, 1) := by decide +kernel
theorem dL_law_1402 : decode cL_law 1402 = .ok (.ifCond .le 16, 3) := by decide +kernel
theorem dL_law_1405 : decode cL_law 1405 = .ok (.iload 20, 2) := by decide +kernel
theorem dL_law_1407 : decode cL_law 1407 = .ok (.ifCond .ne 7, 3) := by decide +kernel
theorem dL_law_1410 : decode cL_law 1410 = .ok (.iconst 1, 1) := by decide +kernel
theorem dL_law_1411 : decode cL_law 1411 = .ok (.goto 9, 3) := by decide +kernel
theorem dL_law_1414 : decode cL_law 1414 = .ok (.iconst 0, 1) := by decide +kernel
theorem dL_law_1415 : decode cL_law 1415 = .ok (.goto 5, 3) := by decide +kernel
theorem dL_law_1418 : decode cL_law 1418 = .ok (.iload 20, 2) := by decide +kernel
theorem dL_law_1420 : decode cL_law 1420 = .ok (.istore 21, 2) := by decide +kernel
theorem dL_law_1422 : decode cL_law 1422 = .ok (.aload 8, 2) := by decide +kernel
theorem dL_law_1424 : decode cL_law 1424 = .ok (.iconst 0, 1) := by decide +kernel
theorem dL_law_1425 : decode cL_law 1425 = .ok (.iaload, 1) := by decide +kernel
theorem dL_law_1426 : decode cL_law 1426 = .ok (.ifCond .le 40, 3) := by decide +kernel
theorem dL_law_1429 : decode cL_law 1429 = .ok (.iload 21, 2) := by decide +kernel
theorem dL_law_1431 : decode cL_law 1431 = .ok (.iload 20, 2) := by decide +kernel
theorem dL_law_1433 : decode cL_law 1433 = .ok (.if_icmp .eq 33, 3) := by decide +kernel
theorem dL_law_1436 : decode cL_law 1436 = .ok (.aload 9, 2) := by decide +kernel
theorem dL_law_1438 : decode cL_law 1438 = .ok (.iconst 0, 1) := by decide +kernel
theorem dL_law_1439 : decode cL_law 1439 = .ok (.dup2, 1) := by decide +kernel
theorem dL_law_1440 : decode cL_law 1440 = .ok (.iaload, 1) := by decide +kernel
theorem dL_law_1441 : decode cL_law 1441 = .ok (.iconst 1, 1) := by decide +kernel
theorem dL_law_1442 : decode cL_law 1442 = .ok (.iload 19, 2) := by decide +kernel
theorem dL_law_1444 : decode cL_law 1444 = .ok (.ishl, 1) := by decide +kernel
theorem dL_law_1445 : decode cL_law 1445 = .ok (.ixor, 1) := by decide +kernel
theorem dL_law_1446 : decode cL_law 1446 = .ok (.iastore, 1) := by decide +kernel
theorem dL_law_1447 : decode cL_law 1447 = .ok (.aload_n 2, 1) := by decide +kernel
theorem dL_law_1448 : decode cL_law 1448 = .ok (.aload_n 3, 1) := by decide +kernel
theorem dL_law_1449 : decode cL_law 1449 = .ok (.aload 4, 2) := by decide +kernel
theorem dL_law_1451 : decode cL_law 1451 = .ok (.aload 8, 2) := by decide +kernel
theorem dL_law_1453 : decode cL_law 1453 = .ok (.aload 10, 2) := by decide +kernel
theorem dL_law_1455 : decode cL_law 1455 = .ok (.aload 5, 2) := by decide +kernel
theorem dL_law_1457 : decode cL_law 1457 = .ok (.aload 6, 2) := by decide +kernel
theorem dL_law_1459 : decode cL_law 1459 = .ok (.aload 7, 2) := by decide +kernel
theorem dL_law_1461 : decode cL_law 1461 = .ok (.aload 9, 2) := by decide +kernel
theorem dL_law_1463 : decode cL_law 1463 = .ok (.invokestatic 157, 3) := by decide +kernel
theorem dL_law_1466 : decode cL_law 1466 = .ok (.aload_n 1, 1) := by decide +kernel
theorem dL_law_1467 : decode cL_law 1467 = .ok (.bipush 6, 2) := by decide +kernel
theorem dL_law_1469 : decode cL_law 1469 = .ok (.iload 19, 2) := by decide +kernel
theorem dL_law_1471 : decode cL_law 1471 = .ok (.iload 21, 2) := by decide +kernel
theorem dL_law_1473 : decode cL_law 1473 = .ok (.ifCond .eq 7, 3) := by decide +kernel
theorem dL_law_1476 : decode cL_law 1476 = .ok (.iconst 1, 1) := by decide +kernel
theorem dL_law_1477 : decode cL_law 1477 = .ok (.goto 4, 3) := by decide +kernel
theorem dL_law_1480 : decode cL_law 1480 = .ok (.iconst 0, 1) := by decide +kernel
theorem dL_law_1481 : decode cL_law 1481 = .ok (.invokestatic 145, 3) := by decide +kernel
theorem dL_law_1484 : decode cL_law 1484 = .ok (.aload 8, 2) := by decide +kernel
theorem dL_law_1486 : decode cL_law 1486 = .ok (.iconst 0, 1) := by decide +kernel
theorem dL_law_1487 : decode cL_law 1487 = .ok (.iaload, 1) := by decide +kernel
theorem dL_law_1488 : decode cL_law 1488 = .ok (.ifCond .ne 8, 3) := by decide +kernel
theorem dL_law_1491 : decode cL_law 1491 = .ok (.bipush (-11), 2) := by decide +kernel
theorem dL_law_1493 : decode cL_law 1493 = .ok (.goto 19, 3) := by decide +kernel
theorem dL_law_1496 : decode cL_law 1496 = .ok (.iload 21, 2) := by decide +kernel
theorem dL_law_1498 : decode cL_law 1498 = .ok (.iload 20, 2) := by decide +kernel
theorem dL_law_1500 : decode cL_law 1500 = .ok (.if_icmp .ne 8, 3) := by decide +kernel
theorem dL_law_1503 : decode cL_law 1503 = .ok (.bipush (-13), 2) := by decide +kernel
theorem dL_law_1505 : decode cL_law 1505 = .ok (.goto 7, 3) := by decide +kernel
theorem dL_law_1508 : decode cL_law 1508 = .ok (.aload_n 2, 1) := by decide +kernel
theorem dL_law_1509 : decode cL_law 1509 = .ok (.invokestatic 106, 3) := by decide +kernel
theorem dL_law_1512 : decode cL_law 1512 = .ok (.if_icmp .ne 7, 3) := by decide +kernel
theorem dL_law_1515 : decode cL_law 1515 = .ok (.iconst 1, 1) := by decide +kernel
theorem dL_law_1516 : decode cL_law 1516 = .ok (.goto 4, 3) := by decide +kernel
theorem dL_law_1519 : decode cL_law 1519 = .ok (.iconst 0, 1) := by decide +kernel
theorem dL_law_1520 : decode cL_law 1520 = .ok (.istore 13, 2) := by decide +kernel
theorem dL_law_1522 : decode cL_law 1522 = .ok (.iload 13, 2) := by decide +kernel
theorem dL_law_1524 : decode cL_law 1524 = .ok (.ifCond .eq 22, 3) := by decide +kernel
theorem dL_law_1527 : decode cL_law 1527 = .ok (.aload_n 1, 1) := by decide +kernel
theorem dL_law_1528 : decode cL_law 1528 = .ok (.aload_n 2, 1) := by decide +kernel
theorem dL_law_1529 : decode cL_law 1529 = .ok (.aload_n 3, 1) := by decide +kernel
theorem dL_law_1530 : decode cL_law 1530 = .ok (.aload 8, 2) := by decide +kernel
theorem dL_law_1532 : decode cL_law 1532 = .ok (.aload 7, 2) := by decide +kernel
theorem dL_law_1534 : decode cL_law 1534 = .ok (.aload 9, 2) := by decide +kernel
theorem dL_law_1536 : decode cL_law 1536 = .ok (.invokestatic 139, 3) := by decide +kernel
theorem dL_law_1539 : decode cL_law 1539 = .ok (.ifCond .eq 7, 3) := by decide +kernel
theorem dL_law_1542 : decode cL_law 1542 = .ok (.iconst 1, 1) := by decide +kernel
theorem dL_law_1543 : decode cL_law 1543 = .ok (.goto 4, 3) := by decide +kernel
theorem dL_law_1546 : decode cL_law 1546 = .ok (.iconst 0, 1) := by decide +kernel
theorem dL_law_1547 : decode cL_law 1547 = .ok (.istore 13, 2) := by decide +kernel
theorem dL_law_1549 : decode cL_law 1549 = .ok (.iinc 14 1, 3) := by decide +kernel
theorem dL_law_1552 : decode cL_law 1552 = .ok (.goto (-1417), 3) := by decide +kernel
theorem dL_law_1555 : decode cL_law 1555 = .ok (.iload 13, 2) := by decide +kernel
theorem dL_law_1557 : decode cL_law 1557 = .ok (.ireturn, 1) := by decide +kernel
