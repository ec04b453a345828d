set_option maxRecDepth 20000 in
theorem ggL_law_X3_init : GoodIn wsL_law wsX3_init := goodIn_r _ [10, 11, 12, 13, 14, 15, 16, 17, 18, 19, 20, 21, 22, 23, 24, 25, 26, 27, 28, 29, 30, 31, 32, 33, 34, 35, 36, 37, 38, 39, 40, 41, 42, 43, 44, 814, 815, 816, 817, 818, 819, 823, 824, 825, 826, 827] (by decide +kernel) (by decide +kernel)
set_option maxRecDepth 20000 in
theorem gL_law_X3_init : GoodIn wsL_law (wsX3_init) := ggL_law_X3_init
set_option maxRecDepth 20000 in
theorem ggL_law_X4_init : GoodIn wsL_law wsX4_init := goodIn_r _ [47, 48, 12, 13, 49, 33, 50, 51, 28, 52, 820, 821, 822] (by decide +kernel) (by decide +kernel)
set_option maxRecDepth 20000 in
theorem gL_law_X4_init : GoodIn wsL_law (wsX4_init) := ggL_law_X4_init
set_option maxRecDepth 20000 in
theorem ggL_law_L_span : GoodIn wsL_law wsL_span := goodIn_ca (goodIn_ca (goodIn_r _ [56, 57, 58, 59, 60, 61, 2, 62, 63, 64, 65, 66, 67, 68, 69, 70, 71, 72, 15, 73, 74, 75, 76, 77, 78, 79, 80, 81, 82, 83, 84, 85, 86, 87, 88, 89, 19, 90, 91, 92, 93, 94, 95, 96, 97, 98, 34, 99, 100, 101, 102, 814, 815, 816, 817, 818, 819, 823] (by decide +kernel) (by decide +kernel)) (goodIn_sub (fun _ h => List.mem_append_left _ (List.mem_append_right _ h)) (by decide +kernel))) (goodIn_sub (fun _ h => List.mem_append_right _ h) (by decide +kernel))
set_option maxRecDepth 20000 in
theorem gL_law_L_span : GoodIn wsL_law (va_wsS RL 112 yL_span wsL_span) := goodIn_app (goodIn_of _ (by decide +kernel)) ggL_law_L_span
set_option maxRecDepth 20000 in
theorem ggL_law_X4_span : GoodIn wsL_law wsX4_span := goodIn_r _ [106, 107, 50, 108, 109, 5, 110, 111, 112, 113, 114, 115, 116, 117, 118, 119, 120, 121, 122, 123, 820, 821, 822] (by decide +kernel) (by decide +kernel)
set_option maxRecDepth 20000 in
theorem gL_law_X4_span : GoodIn wsL_law (wsV RL 117 RX4 yX4_span wsX4_span) := goodIn_app (goodIn_of _ (by decide +kernel)) ggL_law_X4_span
set_option maxRecDepth 20000 in
theorem ggL_law_X4_thrown : GoodIn wsL_law wsX4_thrown := goodIn_r _ [127, 107, 820, 821, 822] (by decide +kernel) (by decide +kernel)
set_option maxRecDepth 20000 in
theorem gL_law_X4_thrown : GoodIn wsL_law (wsV RL 118 RX4 yX4_thrown wsX4_thrown) := goodIn_app (goodIn_of _ (by decide +kernel)) ggL_law_X4_thrown
set_option maxRecDepth 20000 in
theorem ggL_law_L_join : GoodIn wsL_law wsL_join := goodIn_ca (goodIn_ca (goodIn_r _ [130, 57, 58, 131, 132, 133, 2, 134, 63, 64, 65, 66, 67, 68, 69, 70, 71, 72, 15, 78, 79, 80, 76, 77, 135, 96, 97, 19, 98, 34, 136, 137, 138, 139, 100, 101, 102, 140, 141, 142, 143, 95, 814, 815, 816, 817, 818, 819, 823] (by decide +kernel) (by decide +kernel)) (goodIn_sub (fun _ h => List.mem_append_left _ (List.mem_append_right _ h)) (by decide +kernel))) (goodIn_sub (fun _ h => List.mem_append_right _ h) (by decide +kernel))
set_option maxRecDepth 20000 in
theorem gL_law_L_join : GoodIn wsL_law (va_wsS RL 122 yL_join wsL_join) := goodIn_app (goodIn_of _ (by decide +kernel)) ggL_law_L_join
set_option maxRecDepth 20000 in
theorem ggL_law_X4_join : GoodIn wsL_law wsX4_join := goodIn_r _ [147, 107, 33, 50, 108, 109, 5, 110, 111, 112, 113, 114, 115, 116, 117, 148, 149, 150, 820, 821, 822] (by decide +kernel) (by decide +kernel)
set_option maxRecDepth 20000 in
theorem gL_law_X4_join : GoodIn wsL_law (wsV RL 125 RX4 yX4_join wsX4_join) := goodIn_app (goodIn_of _ (by decide +kernel)) ggL_law_X4_join
set_option maxRecDepth 20000 in
theorem ggL_law_L_change : GoodIn wsL_law wsL_change := goodIn_ca (goodIn_ca (goodIn_r _ [153, 57, 58, 154, 155, 156, 2, 157, 63, 64, 65, 66, 67, 68, 69, 70, 71, 72, 15, 78, 79, 80, 76, 77, 158, 159, 160, 161, 162, 163, 164, 19, 165, 95, 96, 97, 98, 34, 99, 100, 101, 102, 166, 167, 168, 169, 170, 171, 172, 173, 174, 175, 176, 177, 178, 179, 180, 181, 182, 183, 184, 185, 27, 186, 187, 188, 26, 189, 44, 190, 191, 192, 193, 194, 42, 195, 196, 197, 198, 43, 199, 200, 201, 202, 203, 204, 205, 206, 207, 208, 209, 210, 211, 212, 213, 214, 215, 216, 217, 218, 219, 220, 87, 88, 89, 90, 91, 92, 93, 94, 221, 222, 223, 224, 225, 226, 227, 228, 229, 230, 140, 141, 142, 143, 814, 815, 816, 817, 818, 819, 823, 825, 826, 827] (by decide +kernel) (by decide +kernel)) (goodIn_sub (fun _ h => List.mem_append_left _ (List.mem_append_right _ h)) (by decide +kernel))) (goodIn_sub (fun _ h => List.mem_append_right _ h) (by decide +kernel))
set_option maxRecDepth 20000 in
theorem gL_law_L_change : GoodIn wsL_law (va_wsS RL 126 yL_change wsL_change) := goodIn_app (goodIn_of _ (by decide +kernel)) ggL_law_L_change
set_option maxRecDepth 20000 in
theorem ggL_law_X4_change : GoodIn wsL_law wsX4_change := goodIn_r _ [234, 107, 50, 108, 109, 5, 110, 111, 112, 113, 114, 115, 116, 117, 235, 236, 237, 33, 238, 239, 240, 241, 92, 93, 94, 242, 243, 244, 245, 246, 247, 248, 249, 250, 251, 252, 253, 148, 149, 150, 820, 821, 822] (by decide +kernel) (by decide +kernel)
set_option maxRecDepth 20000 in
theorem gL_law_X4_change : GoodIn wsL_law (wsV RL 129 RX4 yX4_change wsX4_change) := goodIn_app (goodIn_of _ (by decide +kernel)) ggL_law_X4_change
set_option maxRecDepth 20000 in
theorem ggL_law_L_move : GoodIn wsL_law wsL_move := goodIn_ca (goodIn_ca (goodIn_r _ [256, 57, 58, 257, 258, 259, 2, 260, 20, 63, 64, 65, 66, 67, 68, 69, 70, 71, 72, 15, 261, 262, 263, 76, 77, 264, 265, 266, 19, 267, 95, 96, 97, 98, 34, 99, 100, 101, 102, 135, 139, 140, 141, 142, 143, 814, 815, 816, 817, 818, 819, 823] (by decide +kernel) (by decide +kernel)) (goodIn_sub (fun _ h => List.mem_append_left _ (List.mem_append_right _ h)) (by decide +kernel))) (goodIn_sub (fun _ h => List.mem_append_right _ h) (by decide +kernel))
set_option maxRecDepth 20000 in
theorem gL_law_L_move : GoodIn wsL_law (va_wsS RL 130 yL_move wsL_move) := goodIn_app (goodIn_of _ (by decide +kernel)) ggL_law_L_move
set_option maxRecDepth 20000 in
theorem ggL_law_X4_move : GoodIn wsL_law wsX4_move := goodIn_r _ [271, 107, 50, 108, 109, 5, 110, 111, 112, 113, 114, 115, 116, 117, 272, 273, 274, 33, 248, 249, 250, 148, 149, 150, 820, 821, 822] (by decide +kernel) (by decide +kernel)
set_option maxRecDepth 20000 in
theorem gL_law_X4_move : GoodIn wsL_law (wsV RL 132 RX4 yX4_move wsX4_move) := goodIn_app (goodIn_of _ (by decide +kernel)) ggL_law_X4_move
set_option maxRecDepth 20000 in
theorem ggL_law_L_stretch : GoodIn wsL_law wsL_stretch := goodIn_ca (goodIn_ca (goodIn_r _ [277, 57, 58, 278, 279, 280, 2, 281, 76, 77, 20, 63, 64, 65, 66, 67, 68, 69, 70, 71, 72, 15, 264, 265, 266, 19, 267, 95, 96, 97, 98, 34, 99, 100, 101, 102, 87, 88, 89, 90, 91, 92, 93, 94, 135, 282, 283, 284, 285, 219, 220, 139, 140, 141, 142, 143, 814, 815, 816, 817, 818, 819, 823] (by decide +kernel) (by decide +kernel)) (goodIn_sub (fun _ h => List.mem_append_right _ h) (by decide +kernel))) (goodIn_sub (fun _ h => List.mem_append_left _ (List.mem_append_right _ h)) (by decide +kernel))
set_option maxRecDepth 20000 in
theorem gL_law_L_stretch : GoodIn wsL_law (va_wsS RL 133 yL_stretch wsL_stretch) := goodIn_app (goodIn_of _ (by decide +kernel)) ggL_law_L_stretch
set_option maxRecDepth 20000 in
theorem ggL_law_X4_stretch : GoodIn wsL_law wsX4_stretch := goodIn_r _ [289, 107, 33, 50, 108, 109, 5, 110, 111, 112, 113, 114, 115, 116, 117, 148, 149, 150, 820, 821, 822] (by decide +kernel) (by decide +kernel)
set_option maxRecDepth 20000 in
theorem gL_law_X4_stretch : GoodIn wsL_law (wsV RL 135 RX4 yX4_stretch wsX4_stretch) := goodIn_app (goodIn_of _ (by decide +kernel)) ggL_law_X4_stretch
set_option maxRecDepth 20000 in
theorem ggL_law_L_ofSet : GoodIn wsL_law wsL_ofSet := goodIn_ca (goodIn_ca (goodIn_r _ [292, 57, 58, 293, 294, 295, 2, 296, 63, 64, 65, 66, 67, 68, 69, 70, 71, 72, 15, 78, 79, 80, 76, 77, 297, 298, 299, 300, 27, 140, 141, 142, 19, 143, 95, 96, 97, 98, 34, 186, 187, 188, 26, 189, 44, 190, 191, 192, 193, 194, 42, 195, 196, 197, 198, 43, 227, 228, 229, 230, 301, 302, 303, 304, 305, 306, 307, 308, 203, 204, 205, 206, 207, 208, 209, 210, 211, 212, 213, 214, 215, 216, 217, 218, 219, 220, 199, 200, 201, 202, 309, 814, 815, 816, 817, 818, 819, 823, 825, 826, 827] (by decide +kernel) (by decide +kernel)) (goodIn_sub (fun _ h => List.mem_append_left _ (List.mem_append_right _ h)) (by decide +kernel))) (goodIn_sub (fun _ h => List.mem_append_right _ h) (by decide +kernel))
set_option maxRecDepth 20000 in
theorem gL_law_L_ofSet : GoodIn wsL_law (va_wsS RL 136 yL_ofSet wsL_ofSet) := goodIn_app (goodIn_of _ (by decide +kernel)) ggL_law_L_ofSet
set_option maxRecDepth 20000 in
theorem ggL_law_X4_ofSet : GoodIn wsL_law wsX4_ofSet := goodIn_r _ [313, 107, 108, 109, 5, 110, 111, 112, 113, 114, 115, 116, 117, 314, 315, 316, 317, 50, 148, 149, 150, 318, 319, 320, 242, 243, 244, 321, 322, 323, 324, 325, 326, 251, 252, 253, 248, 249, 250, 327, 328, 329, 33, 238, 239, 240, 241, 92, 93, 94, 245, 246, 247, 820, 821, 822] (by decide +kernel) (by decide +kernel)
set_option maxRecDepth 20000 in
theorem gL_law_X4_ofSet : GoodIn wsL_law (wsV RL 138 RX4 yX4_ofSet wsX4_ofSet) := goodIn_app (goodIn_of _ (by decide +kernel)) ggL_law_X4_ofSet
set_option maxRecDepth 20000 in
theorem ggL_law_L_ofSpan : GoodIn wsL_law wsL_ofSpan := goodIn_ca (goodIn_ca (goodIn_r _ [332, 57, 58, 333, 334, 335, 2, 336, 67, 68, 27, 63, 64, 65, 66, 69, 70, 71, 72, 15, 186, 187, 188, 26, 189, 44, 190, 96, 97, 19, 98, 34, 191, 192, 193, 194, 42, 195, 196, 197, 198, 43, 227, 228, 229, 230, 78, 79, 80, 76, 77, 337, 208, 209, 210, 211, 212, 213, 214, 215, 216, 217, 218, 219, 220, 814, 815, 816, 817, 818, 819, 825, 826, 827, 823] (by decide +kernel) (by decide +kernel)) (goodIn_sub (fun _ h => List.mem_append_left _ (List.mem_append_right _ h)) (by decide +kernel))) (goodIn_sub (fun _ h => List.mem_append_right _ h) (by decide +kernel))
set_option maxRecDepth 20000 in
theorem gL_law_L_ofSpan : GoodIn wsL_law (va_wsS RL 139 yL_ofSpan wsL_ofSpan) := goodIn_app (goodIn_of _ (by decide +kernel)) ggL_law_L_ofSpan
set_option maxRecDepth 20000 in
theorem ggL_law_X4_ofSpan : GoodIn wsL_law wsX4_ofSpan := goodIn_r _ [341, 107, 50, 108, 109, 5, 110, 111, 112, 113, 114, 115, 116, 117, 342, 343, 344, 242, 243, 244, 345, 346, 347, 820, 821, 822] (by decide +kernel) (by decide +kernel)
set_option maxRecDepth 20000 in
theorem gL_law_X4_ofSpan : GoodIn wsL_law (wsV RL 142 RX4 yX4_ofSpan wsX4_ofSpan) := goodIn_app (goodIn_of _ (by decide +kernel)) ggL_law_X4_ofSpan
set_option maxRecDepth 20000 in
theorem ggL_law_L_has : GoodIn wsL_law wsL_has := goodIn_ca (goodIn_r _ [350, 57, 351, 352, 353, 2, 354, 63, 64, 65, 66, 67, 68, 69, 70, 71, 72, 15, 355, 356, 357, 135, 96, 97, 19, 98, 34, 814, 815, 816, 817, 818, 819, 823] (by decide +kernel) (by decide +kernel)) (goodIn_sub (fun _ h => List.mem_append_left _ (List.mem_append_right _ h)) (by decide +kernel))
set_option maxRecDepth 20000 in
theorem gL_law_L_has : GoodIn wsL_law (va_wsS RL 143 yL_has wsL_has) := goodIn_app (goodIn_of _ (by decide +kernel)) ggL_law_L_has
set_option maxRecDepth 20000 in
theorem ggL_law_X4_has : GoodIn wsL_law wsX4_has := goodIn_r _ [361, 107, 50, 108, 109, 5, 110, 111, 112, 113, 820, 821, 822] (by decide +kernel) (by decide +kernel)
set_option maxRecDepth 20000 in
theorem gL_law_X4_has : GoodIn wsL_law (wsV RL 145 RX4 yX4_has wsX4_has) := goodIn_app (goodIn_of _ (by decide +kernel)) ggL_law_X4_has
set_option maxRecDepth 20000 in
theorem ggL_law_L_far : GoodIn wsL_law wsL_far := goodIn_ca (goodIn_r _ [364, 57, 365, 366, 367, 2, 368, 63, 64, 65, 66, 67, 68, 69, 70, 71, 72, 15, 355, 356, 357, 135, 96, 97, 19, 98, 34, 814, 815, 816, 817, 818, 819, 823] (by decide +kernel) (by decide +kernel)) (goodIn_sub (fun _ h => List.mem_append_left _ (List.mem_append_right _ h)) (by decide +kernel))
set_option maxRecDepth 20000 in
theorem gL_law_L_far : GoodIn wsL_law (va_wsS RL 146 yL_far wsL_far) := goodIn_app (goodIn_of _ (by decide +kernel)) ggL_law_L_far
set_option maxRecDepth 20000 in
theorem ggL_law_X4_far : GoodIn wsL_law wsX4_far := goodIn_r _ [372, 107, 50, 108, 109, 5, 110, 111, 112, 113, 114, 115, 116, 117, 248, 249, 250, 820, 821, 822] (by decide +kernel) (by decide +kernel)
set_option maxRecDepth 20000 in
theorem gL_law_X4_far : GoodIn wsL_law (wsV RL 148 RX4 yX4_far wsX4_far) := goodIn_app (goodIn_of _ (by decide +kernel)) ggL_law_X4_far
set_option maxRecDepth 20000 in
theorem ggL_law_L_beside : GoodIn wsL_law wsL_beside := goodIn_ca (goodIn_r _ [375, 57, 376, 377, 378, 2, 379, 63, 64, 65, 66, 67, 68, 69, 70, 71, 72, 15, 380, 381, 382, 19, 383, 95, 96, 97, 98, 34, 384, 385, 386, 135, 814, 815, 816, 817, 818, 819, 823] (by decide +kernel) (by decide +kernel)) (goodIn_sub (fun _ h => List.mem_append_left _ (List.mem_append_right _ h)) (by decide +kernel))
set_option maxRecDepth 20000 in
theorem gL_law_L_beside : GoodIn wsL_law (va_wsS RL 149 yL_beside wsL_beside) := goodIn_app (goodIn_of _ (by decide +kernel)) ggL_law_L_beside
set_option maxRecDepth 20000 in
theorem ggL_law_X4_beside : GoodIn wsL_law wsX4_beside := goodIn_r _ [390, 107, 50, 108, 109, 5, 110, 111, 112, 113, 114, 115, 116, 117, 148, 149, 150, 820, 821, 822] (by decide +kernel) (by decide +kernel)
set_option maxRecDepth 20000 in
theorem gL_law_X4_beside : GoodIn wsL_law (wsV RL 151 RX4 yX4_beside wsX4_beside) := goodIn_app (goodIn_of _ (by decide +kernel)) ggL_law_X4_beside
set_option maxRecDepth 20000 in
theorem ggL_law_L_raise : GoodIn wsL_law wsL_raise := goodIn_ca (goodIn_ca (goodIn_r _ [393, 57, 58, 394, 395, 396, 2, 397, 76, 77, 398, 399, 400, 401, 67, 68, 17, 73, 74, 75, 78, 79, 80, 84, 85, 86, 81, 82, 83, 402, 403, 404, 22, 405, 38, 406, 407, 408, 409, 410, 411, 93, 412, 413, 92, 94, 414, 415, 416, 417, 418, 814, 815, 816, 817, 818, 819, 824] (by decide +kernel) (by decide +kernel)) (goodIn_sub (fun _ h => List.mem_append_right _ h) (by decide +kernel))) (goodIn_sub (fun _ h => List.mem_append_left _ (List.mem_append_right _ h)) (by decide +kernel))
set_option maxRecDepth 20000 in
theorem gL_law_L_raise : GoodIn wsL_law (va_wsS RL 152 yL_raise wsL_raise) := goodIn_app (goodIn_of _ (by decide +kernel)) ggL_law_L_raise
set_option maxRecDepth 20000 in
theorem ggL_law_X4_raise : GoodIn wsL_law wsX4_raise := goodIn_r _ [422, 107, 52, 423, 424, 5, 425, 111, 112, 113, 114, 115, 116, 117, 118, 119, 120, 121, 122, 123, 426, 427, 428, 429, 411, 93, 412, 241, 92, 94, 430, 431, 432, 820, 821, 822] (by decide +kernel) (by decide +kernel)
set_option maxRecDepth 20000 in
theorem gL_law_X4_raise : GoodIn wsL_law (wsV RL 155 RX4 yX4_raise wsX4_raise) := goodIn_app (goodIn_of _ (by decide +kernel)) ggL_law_X4_raise
set_option maxRecDepth 20000 in
theorem ggL_law_L_set : GoodIn wsL_law wsL_set := goodIn_ca (goodIn_ca (goodIn_r _ [435, 57, 58, 436, 437, 438, 2, 439, 76, 77, 398, 399, 400, 401, 67, 68, 17, 63, 64, 65, 66, 69, 70, 71, 72, 15, 135, 96, 97, 19, 98, 34, 406, 407, 408, 22, 409, 38, 410, 411, 93, 412, 413, 92, 94, 414, 415, 416, 417, 418, 403, 404, 405, 814, 815, 816, 817, 818, 819, 823, 824] (by decide +kernel) (by decide +kernel)) (goodIn_sub (fun _ h => List.mem_append_right _ h) (by decide +kernel))) (goodIn_sub (fun _ h => List.mem_append_left _ (List.mem_append_right _ h)) (by decide +kernel))
set_option maxRecDepth 20000 in
theorem gL_law_L_set : GoodIn wsL_law (va_wsS RL 156 yL_set wsL_set) := goodIn_app (goodIn_of _ (by decide +kernel)) ggL_law_L_set
set_option maxRecDepth 20000 in
theorem ggL_law_X4_set : GoodIn wsL_law wsX4_set := goodIn_r _ [443, 107, 50, 52, 423, 424, 5, 425, 111, 112, 113, 108, 109, 110, 114, 115, 116, 117, 430, 431, 432, 820, 821, 822] (by decide +kernel) (by decide +kernel)
set_option maxRecDepth 20000 in
theorem gL_law_X4_set : GoodIn wsL_law (wsV RL 158 RX4 yX4_set wsX4_set) := goodIn_app (goodIn_of _ (by decide +kernel)) ggL_law_X4_set
set_option maxRecDepth 20000 in
theorem ggL_law_L_mix : GoodIn wsL_law wsL_mix := goodIn_ca (goodIn_ca (goodIn_r _ [446, 57, 58, 447, 448, 449, 2, 450, 398, 399, 400, 401, 67, 68, 17, 78, 79, 80, 76, 77, 402, 403, 404, 22, 405, 38, 451, 452, 453, 454, 411, 93, 412, 455, 92, 94, 406, 407, 408, 409, 410, 413, 414, 415, 416, 417, 418, 814, 815, 816, 817, 818, 819, 824] (by decide +kernel) (by decide +kernel)) (goodIn_sub (fun _ h => List.mem_append_left _ (List.mem_append_right _ h)) (by decide +kernel))) (goodIn_sub (fun _ h => List.mem_append_right _ h) (by decide +kernel))
set_option maxRecDepth 20000 in
theorem gL_law_L_mix : GoodIn wsL_law (va_wsS RL 159 yL_mix wsL_mix) := goodIn_app (goodIn_of _ (by decide +kernel)) ggL_law_L_mix
set_option maxRecDepth 20000 in
theorem ggL_law_X4_mix : GoodIn wsL_law wsX4_mix := goodIn_r _ [459, 107, 28, 52, 423, 424, 5, 425, 111, 112, 113, 114, 115, 116, 117, 460, 461, 462, 429, 411, 93, 412, 241, 92, 94, 426, 427, 428, 430, 431, 432, 820, 821, 822] (by decide +kernel) (by decide +kernel)
set_option maxRecDepth 20000 in
theorem gL_law_X4_mix : GoodIn wsL_law (wsV RL 161 RX4 yX4_mix wsX4_mix) := goodIn_app (goodIn_of _ (by decide +kernel)) ggL_law_X4_mix
set_option maxRecDepth 20000 in
theorem ggL_law_L_turn : GoodIn wsL_law wsL_turn := goodIn_ca (goodIn_ca (goodIn_r _ [465, 57, 58, 466, 467, 468, 2, 469, 76, 77, 398, 399, 400, 401, 67, 68, 17, 78, 79, 80, 470, 471, 472, 473, 23, 474, 475, 476, 22, 477, 418, 403, 404, 405, 38, 478, 407, 408, 409, 410, 411, 93, 412, 413, 92, 94, 479, 480, 481, 482, 483, 484, 485, 486, 487, 488, 489, 490, 491, 492, 493, 494, 219, 220, 495, 496, 497, 498, 499, 500, 501, 502, 503, 504, 505, 506, 507, 508, 509, 510, 511, 512, 513, 514, 414, 415, 416, 417, 814, 815, 816, 817, 818, 819, 824] (by decide +kernel) (by decide +kernel)) (goodIn_sub (fun _ h => List.mem_append_right _ h) (by decide +kernel))) (goodIn_sub (fun _ h => List.mem_append_left _ (List.mem_append_right _ h)) (by decide +kernel))
set_option maxRecDepth 20000 in
theorem gL_law_L_turn : GoodIn wsL_law (va_wsS RL 162 yL_turn wsL_turn) := goodIn_app (goodIn_of _ (by decide +kernel)) ggL_law_L_turn
set_option maxRecDepth 20000 in
theorem ggL_law_X4_turn : GoodIn wsL_law wsX4_turn := goodIn_r _ [518, 107, 52, 28, 423, 424, 5, 425, 111, 112, 113, 114, 115, 116, 117, 519, 520, 521, 522, 523, 524, 241, 92, 93, 94, 525, 526, 527, 426, 427, 428, 429, 411, 412, 430, 431, 432, 820, 821, 822] (by decide +kernel) (by decide +kernel)
set_option maxRecDepth 20000 in
theorem gL_law_X4_turn : GoodIn wsL_law (wsV RL 164 RX4 yX4_turn wsX4_turn) := goodIn_app (goodIn_of _ (by decide +kernel)) ggL_law_X4_turn
set_option maxRecDepth 20000 in
theorem ggL_law_L_thick : GoodIn wsL_law wsL_thick := goodIn_ca (goodIn_ca (goodIn_r _ [530, 57, 58, 531, 532, 533, 2, 534, 398, 399, 400, 401, 67, 68, 17, 535, 536, 537, 76, 77, 538, 539, 540, 541, 542, 543, 544, 545, 69, 70, 71, 72, 15, 135, 96, 97, 19, 98, 34, 406, 407, 408, 22, 409, 38, 410, 411, 93, 412, 413, 92, 94, 414, 415, 416, 417, 418, 403, 404, 405, 814, 815, 816, 817, 818, 819, 823, 824] (by decide +kernel) (by decide +kernel)) (goodIn_sub (fun _ h => List.mem_append_left _ (List.mem_append_right _ h)) (by decide +kernel))) (goodIn_sub (fun _ h => List.mem_append_right _ h) (by decide +kernel))
set_option maxRecDepth 20000 in
theorem gL_law_L_thick : GoodIn wsL_law (va_wsS RL 165 yL_thick wsL_thick) := goodIn_app (goodIn_of _ (by decide +kernel)) ggL_law_L_thick
set_option maxRecDepth 20000 in
theorem ggL_law_X4_thick : GoodIn wsL_law wsX4_thick := goodIn_r _ [549, 107, 52, 423, 424, 5, 425, 111, 112, 113, 114, 115, 116, 117, 550, 551, 552, 553, 50, 430, 431, 432, 820, 821, 822] (by decide +kernel) (by decide +kernel)
set_option maxRecDepth 20000 in
theorem gL_law_X4_thick : GoodIn wsL_law (wsV RL 167 RX4 yX4_thick wsX4_thick) := goodIn_app (goodIn_of _ (by decide +kernel)) ggL_law_X4_thick
set_option maxRecDepth 20000 in
theorem ggL_law_L_where : GoodIn wsL_law wsL_where := goodIn_ca (goodIn_r _ [556, 57, 557, 558, 559, 2, 560, 63, 64, 65, 66, 67, 68, 69, 70, 71, 72, 15, 398, 399, 400, 401, 17, 402, 403, 404, 22, 405, 38, 139, 100, 101, 19, 102, 34, 140, 141, 142, 143, 95, 96, 97, 98, 814, 815, 816, 817, 818, 819, 824, 823] (by decide +kernel) (by decide +kernel)) (goodIn_sub (fun _ h => List.mem_append_left _ (List.mem_append_right _ h)) (by decide +kernel))
set_option maxRecDepth 20000 in
theorem gL_law_L_where : GoodIn wsL_law (va_wsS RL 168 yL_where wsL_where) := goodIn_app (goodIn_of _ (by decide +kernel)) ggL_law_L_where
set_option maxRecDepth 20000 in
theorem ggL_law_X4_where : GoodIn wsL_law wsX4_where := goodIn_r _ [564, 107, 50, 52, 108, 109, 5, 110, 111, 112, 113, 423, 424, 425, 114, 115, 116, 117, 148, 149, 150, 820, 821, 822] (by decide +kernel) (by decide +kernel)
set_option maxRecDepth 20000 in
theorem gL_law_X4_where : GoodIn wsL_law (wsV RL 170 RX4 yX4_where wsX4_where) := goodIn_app (goodIn_of _ (by decide +kernel)) ggL_law_X4_where
set_option maxRecDepth 20000 in
theorem ggL_law_L_ofFunction : GoodIn wsL_law wsL_ofFunction := goodIn_ca (goodIn_ca (goodIn_r _ [567, 57, 58, 568, 569, 570, 2, 571, 398, 399, 400, 401, 67, 68, 17, 78, 79, 80, 76, 77, 572, 573, 574, 414, 415, 416, 22, 417, 418, 403, 404, 405, 38, 575, 512, 513, 514, 413, 92, 93, 94, 410, 411, 412, 576, 504, 505, 506, 577, 578, 579, 580, 581, 582, 583, 402, 814, 815, 816, 817, 818, 819, 824] (by decide +kernel) (by decide +kernel)) (goodIn_sub (fun _ h => List.mem_append_left _ (List.mem_append_right _ h)) (by decide +kernel))) (goodIn_sub (fun _ h => List.mem_append_right _ h) (by decide +kernel))
set_option maxRecDepth 20000 in
theorem gL_law_L_ofFunction : GoodIn wsL_law (va_wsS RL 171 yL_ofFunction wsL_ofFunction) := goodIn_app (goodIn_of _ (by decide +kernel)) ggL_law_L_ofFunction
set_option maxRecDepth 20000 in
theorem ggL_law_X4_ofFunction : GoodIn wsL_law wsX4_ofFunction := goodIn_r _ [587, 107, 423, 424, 5, 425, 111, 112, 113, 114, 115, 116, 117, 588, 589, 590, 591, 52, 430, 431, 432, 519, 520, 521, 28, 522, 523, 524, 241, 92, 93, 94, 592, 593, 594, 820, 821, 822] (by decide +kernel) (by decide +kernel)
set_option maxRecDepth 20000 in
theorem gL_law_X4_ofFunction : GoodIn wsL_law (wsV RL 173 RX4 yX4_ofFunction wsX4_ofFunction) := goodIn_app (goodIn_of _ (by decide +kernel)) ggL_law_X4_ofFunction
set_option maxRecDepth 20000 in
theorem ggL_law_L_value : GoodIn wsL_law wsL_value := goodIn_ca (goodIn_r _ [597, 57, 598, 599, 600, 2, 601, 398, 399, 400, 401, 67, 68, 17, 355, 356, 357, 402, 403, 404, 22, 405, 38, 814, 815, 816, 817, 818, 819, 824] (by decide +kernel) (by decide +kernel)) (goodIn_sub (fun _ h => List.mem_append_left _ (List.mem_append_right _ h)) (by decide +kernel))
set_option maxRecDepth 20000 in
theorem gL_law_L_value : GoodIn wsL_law (va_wsS RL 174 yL_value wsL_value) := goodIn_app (goodIn_of _ (by decide +kernel)) ggL_law_L_value
set_option maxRecDepth 20000 in
theorem ggL_law_X4_value : GoodIn wsL_law wsX4_value := goodIn_r _ [605, 107, 52, 423, 424, 5, 425, 111, 112, 113, 114, 115, 116, 117, 820, 821, 822] (by decide +kernel) (by decide +kernel)
set_option maxRecDepth 20000 in
theorem gL_law_X4_value : GoodIn wsL_law (wsV RL 176 RX4 yX4_value wsX4_value) := goodIn_app (goodIn_of _ (by decide +kernel)) ggL_law_X4_value
set_option maxRecDepth 20000 in
theorem ggL_law_L_area : GoodIn wsL_law wsL_area := goodIn_ca (goodIn_r _ [608, 57, 609, 610, 611, 2, 612, 398, 399, 400, 401, 67, 68, 17, 63, 64, 65, 66, 69, 70, 71, 72, 15, 613, 614, 615, 135, 96, 97, 19, 98, 34, 402, 403, 404, 22, 405, 38, 814, 815, 816, 817, 818, 819, 823, 824] (by decide +kernel) (by decide +kernel)) (goodIn_sub (fun _ h => List.mem_append_left _ (List.mem_append_right _ h)) (by decide +kernel))
set_option maxRecDepth 20000 in
theorem gL_law_L_area : GoodIn wsL_law (va_wsS RL 177 yL_area wsL_area) := goodIn_app (goodIn_of _ (by decide +kernel)) ggL_law_L_area
set_option maxRecDepth 20000 in
theorem ggL_law_X4_area : GoodIn wsL_law wsX4_area := goodIn_r _ [619, 107, 423, 424, 5, 425, 111, 112, 113, 108, 109, 110, 620, 621, 622, 623, 50, 52, 114, 115, 116, 117, 820, 821, 822] (by decide +kernel) (by decide +kernel)
set_option maxRecDepth 20000 in
theorem gL_law_X4_area : GoodIn wsL_law (wsV RL 179 RX4 yX4_area wsX4_area) := goodIn_app (goodIn_of _ (by decide +kernel)) ggL_law_X4_area
set_option maxRecDepth 20000 in
theorem ggL_law_L_mean : GoodIn wsL_law wsL_mean := goodIn_ca (goodIn_r _ [626, 57, 627, 628, 629, 2, 630, 398, 399, 400, 401, 67, 68, 17, 63, 64, 65, 66, 69, 70, 71, 72, 15, 301, 302, 303, 19, 304, 95, 96, 97, 98, 34, 613, 614, 615, 135, 402, 403, 404, 22, 405, 38, 814, 815, 816, 817, 818, 819, 823, 824] (by decide +kernel) (by decide +kernel)) (goodIn_sub (fun _ h => List.mem_append_left _ (List.mem_append_right _ h)) (by decide +kernel))
set_option maxRecDepth 20000 in
theorem gL_law_L_mean : GoodIn wsL_law (va_wsS RL 180 yL_mean wsL_mean) := goodIn_app (goodIn_of _ (by decide +kernel)) ggL_law_L_mean
set_option maxRecDepth 20000 in
theorem ggL_law_X4_mean : GoodIn wsL_law wsX4_mean := goodIn_r _ [634, 107, 50, 423, 424, 5, 425, 111, 112, 113, 108, 109, 110, 321, 322, 323, 620, 621, 622, 623, 52, 820, 821, 822] (by decide +kernel) (by decide +kernel)
set_option maxRecDepth 20000 in
theorem gL_law_X4_mean : GoodIn wsL_law (wsV RL 183 RX4 yX4_mean wsX4_mean) := goodIn_app (goodIn_of _ (by decide +kernel)) ggL_law_X4_mean
set_option maxRecDepth 20000 in
theorem ggL_law_L_thicker : GoodIn wsL_law wsL_thicker := goodIn_ca (goodIn_r _ [637, 58, 638, 639, 640, 2, 641, 535, 536, 537, 76, 77, 642, 643, 644, 645, 538, 539, 540, 541, 542, 543, 544, 545, 69, 70, 71, 72, 15, 135, 96, 97, 19, 98, 34, 814, 815, 816, 817, 818, 819, 823] (by decide +kernel) (by decide +kernel)) (goodIn_sub (fun _ h => List.mem_append_right _ h) (by decide +kernel))
set_option maxRecDepth 20000 in
theorem gL_law_L_thicker : GoodIn wsL_law (va_wsS RL 184 yL_thicker wsL_thicker) := goodIn_app (goodIn_of _ (by decide +kernel)) ggL_law_L_thicker
set_option maxRecDepth 20000 in
theorem ggL_law_X4_thicker : GoodIn wsL_law wsX4_thicker := goodIn_r _ [649, 107, 111, 112, 5, 113, 650, 651, 652, 653, 550, 551, 552, 553, 50, 114, 115, 116, 117, 820, 821, 822] (by decide +kernel) (by decide +kernel)
set_option maxRecDepth 20000 in
theorem gL_law_X4_thicker : GoodIn wsL_law (wsV RL 186 RX4 yX4_thicker wsX4_thicker) := goodIn_app (goodIn_of _ (by decide +kernel)) ggL_law_X4_thicker
set_option maxRecDepth 20000 in
theorem ggL_law_L_cover : GoodIn wsL_law wsL_cover := goodIn_ca (goodIn_ca (goodIn_r _ [656, 57, 58, 657, 658, 659, 2, 660, 63, 64, 65, 66, 67, 68, 69, 70, 71, 72, 15, 535, 536, 537, 76, 77, 661, 662, 663, 664, 29, 135, 96, 97, 19, 98, 34, 665, 666, 667, 668, 542, 543, 544, 545, 669, 670, 671, 672, 95, 814, 815, 816, 817, 818, 819, 823] (by decide +kernel) (by decide +kernel)) (goodIn_sub (fun _ h => List.mem_append_left _ (List.mem_append_right _ h)) (by decide +kernel))) (goodIn_sub (fun _ h => List.mem_append_right _ h) (by decide +kernel))
set_option maxRecDepth 20000 in
theorem gL_law_L_cover : GoodIn wsL_law (va_wsS RL 187 yL_cover wsL_cover) := goodIn_app (goodIn_of _ (by decide +kernel)) ggL_law_L_cover
set_option maxRecDepth 20000 in
theorem ggL_law_X4_cover : GoodIn wsL_law wsX4_cover := goodIn_r _ [676, 107, 108, 109, 5, 110, 111, 112, 113, 114, 115, 116, 117, 677, 678, 679, 680, 28, 50, 681, 682, 683, 684, 242, 243, 244, 685, 686, 687, 820, 821, 822] (by decide +kernel) (by decide +kernel)
set_option maxRecDepth 20000 in
theorem gL_law_X4_cover : GoodIn wsL_law (wsV RL 189 RX4 yX4_cover wsX4_cover) := goodIn_app (goodIn_of _ (by decide +kernel)) ggL_law_X4_cover
set_option maxRecDepth 20000 in
theorem ggL_law_L_covers : GoodIn wsL_law wsL_covers := goodIn_ca (goodIn_ca (goodIn_r _ [690, 57, 58, 691, 692, 693, 2, 694, 67, 68, 29, 63, 64, 65, 66, 69, 70, 71, 72, 15, 535, 536, 537, 76, 77, 661, 662, 663, 664, 135, 96, 97, 19, 98, 34, 665, 666, 667, 668, 542, 543, 544, 545, 669, 670, 671, 672, 95, 814, 815, 816, 817, 818, 819, 823] (by decide +kernel) (by decide +kernel)) (goodIn_sub (fun _ h => List.mem_append_left _ (List.mem_append_right _ h)) (by decide +kernel))) (goodIn_sub (fun _ h => List.mem_append_right _ h) (by decide +kernel))
set_option maxRecDepth 20000 in
theorem gL_law_L_covers : GoodIn wsL_law (va_wsS RL 190 yL_covers wsL_covers) := goodIn_app (goodIn_of _ (by decide +kernel)) ggL_law_L_covers
set_option maxRecDepth 20000 in
theorem ggL_law_X4_covers : GoodIn wsL_law wsX4_covers := goodIn_r _ [698, 107, 108, 109, 5, 110, 111, 112, 113, 114, 115, 116, 117, 677, 678, 679, 680, 28, 50, 681, 682, 683, 684, 242, 243, 244, 685, 686, 687, 820, 821, 822] (by decide +kernel) (by decide +kernel)
set_option maxRecDepth 20000 in
theorem gL_law_X4_covers : GoodIn wsL_law (wsV RL 192 RX4 yX4_covers wsX4_covers) := goodIn_app (goodIn_of _ (by decide +kernel)) ggL_law_X4_covers
set_option maxRecDepth 20000 in
theorem ggL_law_L_apart : GoodIn wsL_law wsL_apart := goodIn_ca (goodIn_r _ [701, 58, 702, 703, 704, 2, 705, 535, 536, 537, 76, 77, 706, 707, 708, 709, 710, 711, 712, 713, 542, 543, 544, 545, 69, 70, 71, 72, 15, 135, 96, 97, 19, 98, 34, 714, 715, 716, 717, 95, 814, 815, 816, 817, 818, 819, 823] (by decide +kernel) (by decide +kernel)) (goodIn_sub (fun _ h => List.mem_append_right _ h) (by decide +kernel))
set_option maxRecDepth 20000 in
theorem gL_law_L_apart : GoodIn wsL_law (va_wsS RL 193 yL_apart wsL_apart) := goodIn_app (goodIn_of _ (by decide +kernel)) ggL_law_L_apart
set_option maxRecDepth 20000 in
theorem ggL_law_X4_apart : GoodIn wsL_law wsX4_apart := goodIn_r _ [721, 107, 111, 112, 5, 113, 722, 723, 724, 725, 50, 248, 249, 250, 726, 727, 728, 729, 114, 115, 116, 117, 820, 821, 822] (by decide +kernel) (by decide +kernel)
set_option maxRecDepth 20000 in
theorem gL_law_X4_apart : GoodIn wsL_law (wsV RL 196 RX4 yX4_apart wsX4_apart) := goodIn_app (goodIn_of _ (by decide +kernel)) ggL_law_X4_apart
set_option maxRecDepth 20000 in
theorem ggL_law_L_pins : GoodIn wsL_law wsL_pins := goodIn_ca (goodIn_r _ [732, 58, 733, 734, 735, 2, 736, 535, 536, 537, 76, 77, 706, 707, 708, 709, 710, 711, 712, 713, 542, 543, 544, 545, 69, 70, 71, 72, 15, 135, 96, 97, 19, 98, 34, 714, 715, 716, 717, 95, 814, 815, 816, 817, 818, 819, 823] (by decide +kernel) (by decide +kernel)) (goodIn_sub (fun _ h => List.mem_append_right _ h) (by decide +kernel))
set_option maxRecDepth 20000 in
theorem gL_law_L_pins : GoodIn wsL_law (va_wsS RL 197 yL_pins wsL_pins) := goodIn_app (goodIn_of _ (by decide +kernel)) ggL_law_L_pins
set_option maxRecDepth 20000 in
theorem ggL_law_X4_pins : GoodIn wsL_law wsX4_pins := goodIn_r _ [740, 107, 111, 112, 5, 113, 722, 723, 724, 725, 50, 248, 249, 250, 726, 727, 728, 729, 114, 115, 116, 117, 820, 821, 822] (by decide +kernel) (by decide +kernel)
set_option maxRecDepth 20000 in
theorem gL_law_X4_pins : GoodIn wsL_law (wsV RL 199 RX4 yX4_pins wsX4_pins) := goodIn_app (goodIn_of _ (by decide +kernel)) ggL_law_X4_pins
set_option maxRecDepth 20000 in
theorem ggL_law_L_meetWith : GoodIn wsL_law wsL_meetWith := goodIn_ca (goodIn_ca (goodIn_r _ [743, 57, 58, 744, 745, 746, 2, 747, 63, 64, 65, 66, 67, 68, 69, 70, 71, 72, 15, 261, 262, 263, 76, 77, 135, 96, 97, 19, 98, 34, 814, 815, 816, 817, 818, 819, 823] (by decide +kernel) (by decide +kernel)) (goodIn_sub (fun _ h => List.mem_append_left _ (List.mem_append_right _ h)) (by decide +kernel))) (goodIn_sub (fun _ h => List.mem_append_right _ h) (by decide +kernel))
set_option maxRecDepth 20000 in
theorem gL_law_L_meetWith : GoodIn wsL_law (va_wsS RL 200 yL_meetWith wsL_meetWith) := goodIn_app (goodIn_of _ (by decide +kernel)) ggL_law_L_meetWith
set_option maxRecDepth 20000 in
theorem ggL_law_X4_meetWith : GoodIn wsL_law wsX4_meetWith := goodIn_r _ [751, 107, 50, 108, 109, 5, 110, 111, 112, 113, 114, 115, 116, 117, 272, 273, 274, 33, 248, 249, 250, 752, 753, 754, 321, 322, 323, 820, 821, 822] (by decide +kernel) (by decide +kernel)
set_option maxRecDepth 20000 in
theorem gL_law_X4_meetWith : GoodIn wsL_law (wsV RL 202 RX4 yX4_meetWith wsX4_meetWith) := goodIn_app (goodIn_of _ (by decide +kernel)) ggL_law_X4_meetWith
set_option maxRecDepth 20000 in
theorem ggL_law_L_clear : GoodIn wsL_law wsL_clear := goodIn_ca (goodIn_r _ [757, 57, 758, 759, 760, 2, 761, 63, 64, 65, 66, 67, 68, 69, 70, 71, 72, 15, 384, 385, 386, 135, 96, 97, 19, 98, 34, 814, 815, 816, 817, 818, 819, 823] (by decide +kernel) (by decide +kernel)) (goodIn_sub (fun _ h => List.mem_append_left _ (List.mem_append_right _ h)) (by decide +kernel))
set_option maxRecDepth 20000 in
theorem gL_law_L_clear : GoodIn wsL_law (va_wsS RL 203 yL_clear wsL_clear) := goodIn_app (goodIn_of _ (by decide +kernel)) ggL_law_L_clear
set_option maxRecDepth 20000 in
theorem ggL_law_X4_clear : GoodIn wsL_law wsX4_clear := goodIn_r _ [765, 107, 108, 109, 5, 110, 111, 112, 113, 114, 115, 116, 117, 766, 767, 768, 769, 50, 272, 273, 274, 33, 248, 249, 250, 148, 149, 150, 752, 753, 754, 820, 821, 822] (by decide +kernel) (by decide +kernel)
set_option maxRecDepth 20000 in
theorem gL_law_X4_clear : GoodIn wsL_law (wsV RL 205 RX4 yX4_clear wsX4_clear) := goodIn_app (goodIn_of _ (by decide +kernel)) ggL_law_X4_clear
set_option maxRecDepth 20000 in
theorem ggL_law_L_best : GoodIn wsL_law wsL_best := goodIn_ca (goodIn_ca (goodIn_r _ [772, 57, 58, 773, 774, 775, 2, 776, 76, 77, 398, 399, 400, 401, 67, 68, 17, 581, 582, 583, 402, 403, 404, 22, 405, 38, 814, 815, 816, 817, 818, 819, 824] (by decide +kernel) (by decide +kernel)) (goodIn_sub (fun _ h => List.mem_append_right _ h) (by decide +kernel))) (goodIn_sub (fun _ h => List.mem_append_left _ (List.mem_append_right _ h)) (by decide +kernel))
set_option maxRecDepth 20000 in
theorem gL_law_L_best : GoodIn wsL_law (va_wsS RL 206 yL_best wsL_best) := goodIn_app (goodIn_of _ (by decide +kernel)) ggL_law_L_best
set_option maxRecDepth 20000 in
theorem ggL_law_X4_best : GoodIn wsL_law wsX4_best := goodIn_r _ [780, 107, 52, 423, 424, 5, 425, 111, 112, 113, 114, 115, 116, 117, 592, 593, 594, 820, 821, 822] (by decide +kernel) (by decide +kernel)
set_option maxRecDepth 20000 in
theorem gL_law_X4_best : GoodIn wsL_law (wsV RL 208 RX4 yX4_best wsX4_best) := goodIn_app (goodIn_of _ (by decide +kernel)) ggL_law_X4_best
set_option maxRecDepth 20000 in
theorem ggL_law_L_saves : GoodIn wsL_law wsL_saves := goodIn_ca (goodIn_ca (goodIn_r _ [783, 57, 58, 784, 785, 786, 2, 787, 63, 64, 65, 66, 67, 68, 69, 70, 71, 72, 15, 788, 789, 790, 535, 536, 537, 76, 77, 661, 662, 663, 664, 29, 135, 96, 97, 19, 98, 34, 665, 666, 667, 668, 542, 543, 544, 545, 669, 670, 671, 672, 95, 814, 815, 816, 817, 818, 819, 823] (by decide +kernel) (by decide +kernel)) (goodIn_sub (fun _ h => List.mem_append_left _ (List.mem_append_right _ h)) (by decide +kernel))) (goodIn_sub (fun _ h => List.mem_append_right _ h) (by decide +kernel))
set_option maxRecDepth 20000 in
theorem gL_law_L_saves : GoodIn wsL_law (va_wsS RL 209 yL_saves wsL_saves) := goodIn_app (goodIn_of _ (by decide +kernel)) ggL_law_L_saves
set_option maxRecDepth 20000 in
theorem ggL_law_X4_saves : GoodIn wsL_law wsX4_saves := goodIn_r _ [794, 107, 108, 109, 5, 110, 111, 112, 113, 114, 115, 116, 117, 677, 678, 679, 680, 28, 50, 681, 682, 683, 684, 242, 243, 244, 685, 686, 687, 820, 821, 822] (by decide +kernel) (by decide +kernel)
set_option maxRecDepth 20000 in
theorem gL_law_X4_saves : GoodIn wsL_law (wsV RL 211 RX4 yX4_saves wsX4_saves) := goodIn_app (goodIn_of _ (by decide +kernel)) ggL_law_X4_saves
set_option maxRecDepth 20000 in
theorem ggL_law_X3_digest : GoodIn wsL_law wsX3_digest := goodIn_ca (goodIn_r _ [798, 799, 800, 63, 64, 65, 2, 66, 67, 68, 69, 70, 71, 72, 15, 801, 802, 803, 804, 27, 297, 298, 299, 300, 140, 141, 142, 19, 143, 95, 96, 97, 98, 34, 186, 187, 188, 26, 189, 44, 190, 191, 192, 193, 194, 42, 195, 196, 197, 198, 43, 227, 228, 229, 230, 301, 302, 303, 304, 305, 306, 307, 308, 203, 204, 205, 206, 207, 208, 209, 210, 211, 212, 213, 214, 215, 216, 217, 218, 219, 220, 199, 200, 201, 202, 309, 337, 398, 399, 400, 401, 17, 805, 806, 807, 572, 573, 574, 414, 415, 416, 22, 417, 418, 403, 404, 405, 38, 575, 512, 513, 514, 413, 92, 93, 94, 410, 411, 412, 576, 504, 505, 506, 577, 578, 579, 580, 581, 582, 583, 402, 642, 643, 644, 645, 538, 539, 540, 541, 542, 543, 544, 545, 135, 706, 707, 708, 709, 710, 711, 712, 713, 714, 715, 716, 717, 661, 662, 663, 664, 29, 665, 666, 667, 668, 669, 670, 671, 672, 814, 815, 816, 817, 818, 819, 823, 825, 826, 827, 824] (by decide +kernel) (by decide +kernel)) (goodIn_sub (fun _ h => List.mem_append_left _ (List.mem_append_right _ h)) (by decide +kernel))
set_option maxRecDepth 20000 in
theorem gL_law_X3_digest : GoodIn wsL_law (wsV RL 212 RX3 yX3_digest wsX3_digest) := goodIn_app (goodIn_of _ (by decide +kernel)) ggL_law_X3_digest
set_option maxRecDepth 20000 in
theorem ggL_law_X4_digest : GoodIn wsL_law wsX4_digest := goodIn_r _ [811, 107, 812, 813, 50, 52, 314, 315, 316, 5, 317, 148, 149, 150, 318, 319, 320, 242, 243, 244, 321, 322, 323, 324, 325, 326, 251, 252, 253, 248, 249, 250, 327, 328, 329, 33, 238, 239, 240, 241, 92, 93, 94, 245, 246, 247, 345, 346, 347, 588, 589, 590, 591, 430, 431, 432, 519, 520, 521, 28, 522, 523, 524, 592, 593, 594, 650, 651, 652, 653, 550, 551, 552, 553, 722, 723, 724, 725, 726, 727, 728, 729, 677, 678, 679, 680, 681, 682, 683, 684, 685, 686, 687, 820, 821, 822] (by decide +kernel) (by decide +kernel)
set_option maxRecDepth 20000 in
theorem gL_law_X4_digest : GoodIn wsL_law (wsV RL 216 RX4 yX4_digest wsX4_digest) := goodIn_app (goodIn_of _ (by decide +kernel)) ggL_law_X4_digest

