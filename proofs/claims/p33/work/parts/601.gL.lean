/-! THE WORDS OF WHAT THE LAW CALLS LIE IN THE LAW'S -/
theorem goodIn_c2 {big a : List Cond} {c : Cond} (hc : GoodIn big [c]) (ha : GoodIn big a) : GoodIn big (c :: a) := fun w h => (List.mem_cons.mp h).elim (fun e => hc w (List.mem_cons.mpr (Or.inl e))) (ha w)
set_option maxRecDepth 20000 in
theorem gswsX4_init_0 : GoodIn wsL_law [.code yX4_init cX4_init 3 none] := goodIn_r _ [10] (by decide +kernel) (by decide +kernel)
set_option maxRecDepth 20000 in
theorem gswsX4_init_r1 : GoodIn wsL_law wsX4_init_r1 := goodIn_r _ [11, 12, 13, 14, 15, 16, 17, 18, 19, 20, 21, 22, 23, 24, 25, 26, 27, 28, 29, 30, 31, 32, 33, 34] (by decide +kernel) (by decide +kernel)
set_option maxRecDepth 20000 in
theorem gswsX4_init_r2 : GoodIn wsL_law wsX4_init_r2 := goodIn_r _ [35, 36, 37, 38, 39, 40, 41, 42, 43, 44, 45, 46, 47, 48, 49, 50, 51, 52, 53, 54, 55, 56, 57] (by decide +kernel) (by decide +kernel)
set_option maxRecDepth 20000 in
theorem gswsX4_init_wsX30 : GoodIn wsL_law wsX30 := goodIn_r _ [595, 596, 597, 598, 599, 600] (by decide +kernel) (by decide +kernel)
set_option maxRecDepth 20000 in
theorem gswsX4_init_wsX40 : GoodIn wsL_law wsX40 := goodIn_r _ [590, 591, 592, 593, 594] (by decide +kernel) (by decide +kernel)
set_option maxRecDepth 20000 in
theorem gswsX4_init_wsX00 : GoodIn wsL_law wsX00 := goodIn_r _ [601] (by decide +kernel) (by decide +kernel)
set_option maxRecDepth 20000 in
theorem gswsX4_init_wsX20 : GoodIn wsL_law wsX20 := goodIn_r _ [602] (by decide +kernel) (by decide +kernel)
set_option maxRecDepth 20000 in
theorem gswsX4_init_wsX10 : GoodIn wsL_law wsX10 := goodIn_r _ [603, 604, 605] (by decide +kernel) (by decide +kernel)
set_option maxRecDepth 20000 in
theorem ggL_law_X4_init : GoodIn wsL_law wsX4_init := goodIn_c2 gswsX4_init_0 (goodIn_app (goodIn_app (goodIn_app (goodIn_app (goodIn_app (goodIn_app gswsX4_init_r1 gswsX4_init_r2) gswsX4_init_wsX30) gswsX4_init_wsX40) gswsX4_init_wsX00) gswsX4_init_wsX20) gswsX4_init_wsX10)
set_option maxRecDepth 20000 in
theorem gL_law_X4_init : GoodIn wsL_law (wsX4_init) := ggL_law_X4_init
set_option maxRecDepth 20000 in
theorem gswsX4_found_0 : GoodIn wsL_law [.code yX4_found cX4_found 2 (some .boolean)] := goodIn_r _ [61] (by decide +kernel) (by decide +kernel)
set_option maxRecDepth 20000 in
theorem gswsX4_found_r1 : GoodIn wsL_law wsX4_found_r1 := goodIn_r _ [62, 63, 64, 2, 65, 18, 17, 66, 67, 68, 69, 22, 23, 70, 71, 72, 73, 74, 75, 76, 77, 78, 79, 80] (by decide +kernel) (by decide +kernel)
set_option maxRecDepth 20000 in
theorem gswsX4_found_r2 : GoodIn wsL_law wsX4_found_r2 := goodIn_r _ [81, 82, 6, 83, 84, 85, 86, 20, 87, 88, 89, 46, 90, 91, 92, 93, 94, 95, 96, 97, 98, 99, 100, 101] (by decide +kernel) (by decide +kernel)
set_option maxRecDepth 20000 in
theorem gswsX4_found_r3 : GoodIn wsL_law wsX4_found_r3 := goodIn_r _ [102, 103, 16, 104, 105, 106, 107, 108, 109, 110, 111, 112, 113, 114, 29, 115, 116, 117, 118, 119, 120, 121, 122, 123] (by decide +kernel) (by decide +kernel)
set_option maxRecDepth 20000 in
theorem gswsX4_found_r4 : GoodIn wsL_law wsX4_found_r4 := goodIn_r _ [124, 125, 126, 127, 128, 129, 130, 131, 33, 132, 133, 134, 135, 136, 137, 47, 138, 139, 140, 141, 142, 143, 144, 145] (by decide +kernel) (by decide +kernel)
set_option maxRecDepth 20000 in
theorem gswsX4_found_r5 : GoodIn wsL_law wsX4_found_r5 := goodIn_r _ [21, 146, 147, 148, 149, 150, 151, 152, 153, 154, 155, 156, 31, 157, 158, 159, 36, 160, 51, 161, 162, 163, 164, 165] (by decide +kernel) (by decide +kernel)
set_option maxRecDepth 20000 in
theorem gswsX4_found_r6 : GoodIn wsL_law wsX4_found_r6 := goodIn_r _ [166, 167, 168, 169, 170, 171, 172, 173, 174, 175, 176, 177, 178, 179, 180, 181, 182, 183, 184, 185, 186, 187, 188, 189] (by decide +kernel) (by decide +kernel)
set_option maxRecDepth 20000 in
theorem gswsX4_found_r7 : GoodIn wsL_law wsX4_found_r7 := goodIn_r _ [190, 191, 192, 193, 194, 195, 196, 197, 198, 199, 200, 201] (by decide +kernel) (by decide +kernel)
set_option maxRecDepth 20000 in
theorem gswsX4_found_wsX40 : GoodIn wsL_law wsX40 := goodIn_r _ [590, 591, 592, 593, 594] (by decide +kernel) (by decide +kernel)
set_option maxRecDepth 20000 in
theorem gswsX4_found_wsX30 : GoodIn wsL_law wsX30 := goodIn_r _ [595, 596, 597, 598, 599, 600] (by decide +kernel) (by decide +kernel)
set_option maxRecDepth 20000 in
theorem gswsX4_found_wsX00 : GoodIn wsL_law wsX00 := goodIn_r _ [601] (by decide +kernel) (by decide +kernel)
set_option maxRecDepth 20000 in
theorem gswsX4_found_wsX20 : GoodIn wsL_law wsX20 := goodIn_r _ [602] (by decide +kernel) (by decide +kernel)
set_option maxRecDepth 20000 in
theorem ggL_law_X4_found : GoodIn wsL_law wsX4_found := goodIn_ca (goodIn_ca (goodIn_c2 gswsX4_found_0 (goodIn_app (goodIn_app (goodIn_app (goodIn_app (goodIn_app gswsX4_found_r1 (goodIn_app gswsX4_found_r2 (goodIn_app gswsX4_found_r3 (goodIn_app gswsX4_found_r4 (goodIn_app gswsX4_found_r5 (goodIn_app gswsX4_found_r6 gswsX4_found_r7)))))) gswsX4_found_wsX40) gswsX4_found_wsX30) gswsX4_found_wsX00) gswsX4_found_wsX20)) (goodIn_sub (fun _ h => List.mem_append_left _ (List.mem_append_right _ h)) (by decide +kernel))) (goodIn_sub (fun _ h => List.mem_append_right _ h) (by decide +kernel))
set_option maxRecDepth 20000 in
theorem gL_law_X4_found : GoodIn wsL_law (wsV RL 18 RX4 yX4_found wsX4_found) := goodIn_app (goodIn_of _ (by decide +kernel)) ggL_law_X4_found
set_option maxRecDepth 20000 in
theorem gswsX4_actSet_0 : GoodIn wsL_law [.code yX4_actSet cX4_actSet 1 (some .boolean)] := goodIn_r _ [205] (by decide +kernel) (by decide +kernel)
set_option maxRecDepth 20000 in
theorem gswsX4_actSet_r1 : GoodIn wsL_law wsX4_actSet_r1 := goodIn_r _ [66, 67, 68, 2, 69, 22, 23, 70, 71, 72, 73, 74, 75, 76, 206, 207, 208, 209, 46, 18, 17, 183, 184, 185] (by decide +kernel) (by decide +kernel)
set_option maxRecDepth 20000 in
theorem gswsX4_actSet_r2 : GoodIn wsL_law wsX4_actSet_r2 := goodIn_r _ [90, 91, 92, 93, 20, 94, 95, 96, 97, 98, 99, 100, 210, 211, 212, 16, 213, 105, 106, 107, 108, 109, 110, 111] (by decide +kernel) (by decide +kernel)
set_option maxRecDepth 20000 in
theorem gswsX4_actSet_r3 : GoodIn wsL_law wsX4_actSet_r3 := goodIn_r _ [112, 113, 114, 29, 120, 121, 122, 118, 119, 201, 135, 136, 33, 137, 47, 214, 215, 216, 217, 139, 140, 141, 218, 219] (by decide +kernel) (by decide +kernel)
set_option maxRecDepth 20000 in
theorem gswsX4_actSet_r4 : GoodIn wsL_law wsX4_actSet_r4 := goodIn_r _ [220, 221, 134, 222, 223, 224, 225, 226, 227, 228, 84, 85, 6, 86, 229, 230, 231, 232, 233, 234, 235, 236, 237, 238] (by decide +kernel) (by decide +kernel)
set_option maxRecDepth 20000 in
theorem gswsX4_actSet_r5 : GoodIn wsL_law wsX4_actSet_r5 := goodIn_r _ [239, 240, 241, 242, 243, 244, 245, 246, 247, 248, 249, 138, 250, 251, 252, 253, 254, 255, 256, 257, 258, 259, 260, 261] (by decide +kernel) (by decide +kernel)
set_option maxRecDepth 20000 in
theorem gswsX4_actSet_r6 : GoodIn wsL_law wsX4_actSet_r6 := goodIn_r _ [262, 263, 264, 265, 266, 267, 268, 269, 41, 270, 271, 272, 40, 273, 57, 274, 275, 276, 277, 278, 55, 279, 280, 281] (by decide +kernel) (by decide +kernel)
set_option maxRecDepth 20000 in
theorem gswsX4_actSet_r7 : GoodIn wsL_law wsX4_actSet_r7 := goodIn_r _ [282, 56, 283, 284, 285, 286, 287, 288, 289, 290, 291, 292, 293, 294, 295, 296, 297, 298, 299, 300, 301, 302, 303, 304] (by decide +kernel) (by decide +kernel)
set_option maxRecDepth 20000 in
theorem gswsX4_actSet_r8 : GoodIn wsL_law wsX4_actSet_r8 := goodIn_r _ [129, 130, 131, 132, 133, 305, 306, 307, 308, 309, 310, 311, 312, 313, 314, 315, 316, 317, 318, 319, 320, 321, 81, 82] (by decide +kernel) (by decide +kernel)
set_option maxRecDepth 20000 in
theorem gswsX4_actSet_r9 : GoodIn wsL_law wsX4_actSet_r9 := goodIn_r _ [83, 322, 323, 324, 325, 34, 326, 327, 328, 329, 330, 331, 332, 333, 334, 335, 336, 337, 338, 339, 340, 341, 342, 343] (by decide +kernel) (by decide +kernel)
set_option maxRecDepth 20000 in
theorem gswsX4_actSet_r10 : GoodIn wsL_law wsX4_actSet_r10 := goodIn_r _ [344, 62, 63, 64, 65, 77, 78, 79, 80, 87, 88, 89, 101, 102, 103, 104, 115, 116, 117, 123, 124, 125, 126, 127] (by decide +kernel) (by decide +kernel)
set_option maxRecDepth 20000 in
theorem gswsX4_actSet_r11 : GoodIn wsL_law wsX4_actSet_r11 := goodIn_r _ [128] (by decide +kernel) (by decide +kernel)
set_option maxRecDepth 20000 in
theorem gswsX4_actSet_wsX40 : GoodIn wsL_law wsX40 := goodIn_r _ [590, 591, 592, 593, 594] (by decide +kernel) (by decide +kernel)
set_option maxRecDepth 20000 in
theorem gswsX4_actSet_wsX30 : GoodIn wsL_law wsX30 := goodIn_r _ [595, 596, 597, 598, 599, 600] (by decide +kernel) (by decide +kernel)
set_option maxRecDepth 20000 in
theorem gswsX4_actSet_wsX00 : GoodIn wsL_law wsX00 := goodIn_r _ [601] (by decide +kernel) (by decide +kernel)
set_option maxRecDepth 20000 in
theorem gswsX4_actSet_wsX10 : GoodIn wsL_law wsX10 := goodIn_r _ [603, 604, 605] (by decide +kernel) (by decide +kernel)
set_option maxRecDepth 20000 in
theorem ggL_law_X4_actSet : GoodIn wsL_law wsX4_actSet := goodIn_ca (goodIn_ca (goodIn_c2 gswsX4_actSet_0 (goodIn_app (goodIn_app (goodIn_app (goodIn_app (goodIn_app gswsX4_actSet_r1 (goodIn_app gswsX4_actSet_r2 (goodIn_app gswsX4_actSet_r3 (goodIn_app gswsX4_actSet_r4 (goodIn_app gswsX4_actSet_r5 (goodIn_app gswsX4_actSet_r6 (goodIn_app gswsX4_actSet_r7 (goodIn_app gswsX4_actSet_r8 (goodIn_app gswsX4_actSet_r9 (goodIn_app gswsX4_actSet_r10 gswsX4_actSet_r11)))))))))) gswsX4_actSet_wsX40) gswsX4_actSet_wsX30) gswsX4_actSet_wsX00) gswsX4_actSet_wsX10)) (goodIn_sub (fun _ h => List.mem_append_left _ (List.mem_append_right _ h)) (by decide +kernel))) (goodIn_sub (fun _ h => List.mem_append_right _ h) (by decide +kernel))
set_option maxRecDepth 20000 in
theorem gL_law_X4_actSet : GoodIn wsL_law (wsV RL 22 RX4 yX4_actSet wsX4_actSet) := goodIn_app (goodIn_of _ (by decide +kernel)) ggL_law_X4_actSet
set_option maxRecDepth 20000 in
theorem gswsX4_actFunction_0 : GoodIn wsL_law [.code yX4_actFunction cX4_actFunction 1 (some .boolean)] := goodIn_r _ [348] (by decide +kernel) (by decide +kernel)
set_option maxRecDepth 20000 in
theorem gswsX4_actFunction_r1 : GoodIn wsL_law wsX4_actFunction_r1 := goodIn_r _ [66, 67, 68, 2, 69, 22, 23, 70, 71, 72, 73, 74, 75, 76, 142, 143, 144, 145, 21, 17, 77, 78, 79, 80] (by decide +kernel) (by decide +kernel)
set_option maxRecDepth 20000 in
theorem gswsX4_actFunction_r2 : GoodIn wsL_law wsX4_actFunction_r2 := goodIn_r _ [81, 82, 6, 83, 84, 85, 86, 20, 146, 147, 148, 149, 150, 151, 16, 152, 118, 119, 153, 154, 155, 156, 109, 110] (by decide +kernel) (by decide +kernel)
set_option maxRecDepth 20000 in
theorem gswsX4_actFunction_r3 : GoodIn wsL_law wsX4_actFunction_r3 := goodIn_r _ [31, 115, 116, 117, 120, 121, 122, 126, 127, 128, 123, 124, 125, 157, 158, 159, 36, 160, 51, 161, 162, 163, 164, 165] (by decide +kernel) (by decide +kernel)
set_option maxRecDepth 20000 in
theorem gswsX4_actFunction_r4 : GoodIn wsL_law wsX4_actFunction_r4 := goodIn_r _ [166, 167, 168, 169, 170, 171, 172, 173, 174, 349, 350, 351, 352, 18, 183, 184, 185, 353, 354, 355, 356, 105, 106, 107] (by decide +kernel) (by decide +kernel)
set_option maxRecDepth 20000 in
theorem gswsX4_actFunction_r5 : GoodIn wsL_law wsX4_actFunction_r5 := goodIn_r _ [108, 111, 112, 113, 114, 29, 201, 135, 136, 33, 137, 47, 357, 358, 359, 360, 361, 362, 363, 364, 365, 366, 367, 368] (by decide +kernel) (by decide +kernel)
set_option maxRecDepth 20000 in
theorem gswsX4_actFunction_r6 : GoodIn wsL_law wsX4_actFunction_r6 := goodIn_r _ [369, 370, 371, 372, 373, 374, 5, 7, 375, 376, 377, 378, 379, 380, 381, 382, 37, 383, 384, 385, 386, 387, 388, 389] (by decide +kernel) (by decide +kernel)
set_option maxRecDepth 20000 in
theorem gswsX4_actFunction_r7 : GoodIn wsL_law wsX4_actFunction_r7 := goodIn_r _ [390, 391, 392, 393, 394, 395, 396, 397, 398, 399, 400, 401, 402, 403, 303, 304, 404, 405, 406, 407, 408, 409, 410, 411] (by decide +kernel) (by decide +kernel)
set_option maxRecDepth 20000 in
theorem gswsX4_actFunction_r8 : GoodIn wsL_law wsX4_actFunction_r8 := goodIn_r _ [412, 413, 414, 415, 416, 417, 418, 419, 420, 421, 422, 423, 175, 176, 177, 178, 179, 180, 181, 182, 186, 187, 188, 189] (by decide +kernel) (by decide +kernel)
set_option maxRecDepth 20000 in
theorem gswsX4_actFunction_r9 : GoodIn wsL_law wsX4_actFunction_r9 := goodIn_r _ [190, 191, 192, 193, 194, 195, 196, 197, 198, 199, 200, 424, 425, 426, 427, 46, 90, 91, 92, 93, 94, 95, 96, 97] (by decide +kernel) (by decide +kernel)
set_option maxRecDepth 20000 in
theorem gswsX4_actFunction_r10 : GoodIn wsL_law wsX4_actFunction_r10 := goodIn_r _ [98, 99, 100, 428, 429, 430, 431, 217, 139, 140, 141, 218, 219, 220, 221, 134, 222, 223, 224] (by decide +kernel) (by decide +kernel)
set_option maxRecDepth 20000 in
theorem gswsX4_actFunction_wsX40 : GoodIn wsL_law wsX40 := goodIn_r _ [590, 591, 592, 593, 594] (by decide +kernel) (by decide +kernel)
set_option maxRecDepth 20000 in
theorem gswsX4_actFunction_wsX30 : GoodIn wsL_law wsX30 := goodIn_r _ [595, 596, 597, 598, 599, 600] (by decide +kernel) (by decide +kernel)
set_option maxRecDepth 20000 in
theorem gswsX4_actFunction_wsX20 : GoodIn wsL_law wsX20 := goodIn_r _ [602] (by decide +kernel) (by decide +kernel)
set_option maxRecDepth 20000 in
theorem gswsX4_actFunction_wsX00 : GoodIn wsL_law wsX00 := goodIn_r _ [601] (by decide +kernel) (by decide +kernel)
set_option maxRecDepth 20000 in
theorem ggL_law_X4_actFunction : GoodIn wsL_law wsX4_actFunction := goodIn_ca (goodIn_ca (goodIn_c2 gswsX4_actFunction_0 (goodIn_app (goodIn_app (goodIn_app (goodIn_app (goodIn_app gswsX4_actFunction_r1 (goodIn_app gswsX4_actFunction_r2 (goodIn_app gswsX4_actFunction_r3 (goodIn_app gswsX4_actFunction_r4 (goodIn_app gswsX4_actFunction_r5 (goodIn_app gswsX4_actFunction_r6 (goodIn_app gswsX4_actFunction_r7 (goodIn_app gswsX4_actFunction_r8 (goodIn_app gswsX4_actFunction_r9 gswsX4_actFunction_r10))))))))) gswsX4_actFunction_wsX40) gswsX4_actFunction_wsX30) gswsX4_actFunction_wsX20) gswsX4_actFunction_wsX00)) (goodIn_sub (fun _ h => List.mem_append_right _ h) (by decide +kernel))) (goodIn_sub (fun _ h => List.mem_append_left _ (List.mem_append_right _ h)) (by decide +kernel))
set_option maxRecDepth 20000 in
theorem gL_law_X4_actFunction : GoodIn wsL_law (wsV RL 25 RX4 yX4_actFunction wsX4_actFunction) := goodIn_app (goodIn_of _ (by decide +kernel)) ggL_law_X4_actFunction
set_option maxRecDepth 20000 in
theorem gswsX3_digest_0 : GoodIn wsL_law [.code yX3_digest cX3_digest 4 (some .long)] := goodIn_r _ [435] (by decide +kernel) (by decide +kernel)
set_option maxRecDepth 20000 in
theorem gswsX3_digest_r1 : GoodIn wsL_law wsX3_digest_r1 := goodIn_r _ [436, 437, 105, 106, 107, 16, 108, 109, 110, 111, 112, 113, 114, 29, 438, 439, 440, 441, 41, 442, 443, 444, 445, 218] (by decide +kernel) (by decide +kernel)
set_option maxRecDepth 20000 in
theorem gswsX3_digest_r2 : GoodIn wsL_law wsX3_digest_r2 := goodIn_r _ [219, 220, 33, 221, 134, 135, 136, 137, 47, 270, 271, 272, 40, 273, 57, 274, 275, 276, 277, 278, 55, 279, 280, 281] (by decide +kernel) (by decide +kernel)
set_option maxRecDepth 20000 in
theorem gswsX3_digest_r3 : GoodIn wsL_law wsX3_digest_r3 := goodIn_r _ [282, 56, 311, 312, 313, 314, 446, 447, 448, 449, 450, 451, 452, 453, 287, 288, 289, 290, 291, 292, 293, 294, 295, 296] (by decide +kernel) (by decide +kernel)
set_option maxRecDepth 20000 in
theorem gswsX3_digest_r4 : GoodIn wsL_law wsX3_digest_r4 := goodIn_r _ [297, 298, 299, 300, 301, 302, 303, 304, 283, 284, 285, 286, 454, 455, 153, 154, 155, 156, 31, 456, 457, 458, 459, 460] (by decide +kernel) (by decide +kernel)
set_option maxRecDepth 20000 in
theorem gswsX3_digest_r5 : GoodIn wsL_law wsX3_digest_r5 := goodIn_r _ [461, 167, 168, 169, 36, 170, 171, 158, 159, 160, 51, 462, 421, 422, 423, 166, 85, 6, 86, 165, 82, 83, 463, 413] (by decide +kernel) (by decide +kernel)
set_option maxRecDepth 20000 in
theorem gswsX3_digest_r6 : GoodIn wsL_law wsX3_digest_r6 := goodIn_r _ [414, 415, 464, 465, 466, 467, 468, 469, 470, 157, 471, 472, 473, 474, 193, 194, 195, 196, 197, 198, 199, 200, 201, 475] (by decide +kernel) (by decide +kernel)
set_option maxRecDepth 20000 in
theorem gswsX3_digest_r7 : GoodIn wsL_law wsX3_digest_r7 := goodIn_r _ [476, 477, 478, 479, 480, 481, 482, 483, 484, 485, 486, 487, 488, 489, 490, 42, 491, 492, 493, 494, 495, 496, 497, 498] (by decide +kernel) (by decide +kernel)
set_option maxRecDepth 20000 in
theorem gswsX3_digest_wsX30 : GoodIn wsL_law wsX30 := goodIn_r _ [595, 596, 597, 598, 599, 600] (by decide +kernel) (by decide +kernel)
set_option maxRecDepth 20000 in
theorem gswsX3_digest_wsX00 : GoodIn wsL_law wsX00 := goodIn_r _ [601] (by decide +kernel) (by decide +kernel)
set_option maxRecDepth 20000 in
theorem gswsX3_digest_wsX10 : GoodIn wsL_law wsX10 := goodIn_r _ [603, 604, 605] (by decide +kernel) (by decide +kernel)
set_option maxRecDepth 20000 in
theorem gswsX3_digest_wsX20 : GoodIn wsL_law wsX20 := goodIn_r _ [602] (by decide +kernel) (by decide +kernel)
set_option maxRecDepth 20000 in
theorem ggL_law_X3_digest : GoodIn wsL_law wsX3_digest := goodIn_ca (goodIn_c2 gswsX3_digest_0 (goodIn_app (goodIn_app (goodIn_app (goodIn_app (goodIn_app gswsX3_digest_r1 (goodIn_app gswsX3_digest_r2 (goodIn_app gswsX3_digest_r3 (goodIn_app gswsX3_digest_r4 (goodIn_app gswsX3_digest_r5 (goodIn_app gswsX3_digest_r6 gswsX3_digest_r7)))))) gswsX3_digest_wsX30) gswsX3_digest_wsX00) gswsX3_digest_wsX10) gswsX3_digest_wsX20)) (goodIn_sub (fun _ h => List.mem_append_left _ (List.mem_append_right _ h)) (by decide +kernel))
set_option maxRecDepth 20000 in
theorem gL_law_X3_digest : GoodIn wsL_law (wsV RL 28 RX3 yX3_digest wsX3_digest) := goodIn_app (goodIn_of _ (by decide +kernel)) ggL_law_X3_digest
set_option maxRecDepth 20000 in
theorem gswsX3_ofSet_0 : GoodIn wsL_law [.code yX3_ofSet cX3_ofSet 4 (some .int)] := goodIn_r _ [502] (by decide +kernel) (by decide +kernel)
set_option maxRecDepth 20000 in
theorem gswsX3_ofSet_r1 : GoodIn wsL_law wsX3_ofSet_r1 := goodIn_r _ [105, 106, 107, 16, 108, 109, 110, 111, 112, 113, 114, 29, 120, 121, 122, 118, 119, 442, 443, 444, 445, 41, 218, 219] (by decide +kernel) (by decide +kernel)
set_option maxRecDepth 20000 in
theorem gswsX3_ofSet_r2 : GoodIn wsL_law wsX3_ofSet_r2 := goodIn_r _ [220, 33, 221, 134, 135, 136, 137, 47, 270, 271, 272, 40, 273, 57, 274, 275, 276, 277, 278, 55, 279, 280, 281, 282] (by decide +kernel) (by decide +kernel)
set_option maxRecDepth 20000 in
theorem gswsX3_ofSet_r3 : GoodIn wsL_law wsX3_ofSet_r3 := goodIn_r _ [56, 311, 312, 313, 314, 446, 447, 448, 449, 450, 451, 452, 453, 287, 288, 289, 290, 291, 292, 293, 294, 295, 296, 297] (by decide +kernel) (by decide +kernel)
set_option maxRecDepth 20000 in
theorem gswsX3_ofSet_r4 : GoodIn wsL_law wsX3_ofSet_r4 := goodIn_r _ [298, 299, 300, 301, 302, 303, 304, 283, 284, 285, 286, 454] (by decide +kernel) (by decide +kernel)
set_option maxRecDepth 20000 in
theorem gswsX3_ofSet_wsX30 : GoodIn wsL_law wsX30 := goodIn_r _ [595, 596, 597, 598, 599, 600] (by decide +kernel) (by decide +kernel)
set_option maxRecDepth 20000 in
theorem gswsX3_ofSet_wsX00 : GoodIn wsL_law wsX00 := goodIn_r _ [601] (by decide +kernel) (by decide +kernel)
set_option maxRecDepth 20000 in
theorem gswsX3_ofSet_wsX10 : GoodIn wsL_law wsX10 := goodIn_r _ [603, 604, 605] (by decide +kernel) (by decide +kernel)
set_option maxRecDepth 20000 in
theorem ggL_law_X3_ofSet : GoodIn wsL_law wsX3_ofSet := goodIn_ca (goodIn_ca (goodIn_c2 gswsX3_ofSet_0 (goodIn_app (goodIn_app (goodIn_app (goodIn_app gswsX3_ofSet_r1 (goodIn_app gswsX3_ofSet_r2 (goodIn_app gswsX3_ofSet_r3 gswsX3_ofSet_r4))) gswsX3_ofSet_wsX30) gswsX3_ofSet_wsX00) gswsX3_ofSet_wsX10)) (goodIn_sub (fun _ h => List.mem_append_left _ (List.mem_append_right _ h)) (by decide +kernel))) (goodIn_sub (fun _ h => List.mem_append_right _ h) (by decide +kernel))
set_option maxRecDepth 20000 in
theorem gL_law_X3_ofSet : GoodIn wsL_law (wsV RL 34 RX3 yX3_ofSet wsX3_ofSet) := goodIn_app (goodIn_of _ (by decide +kernel)) ggL_law_X3_ofSet
set_option maxRecDepth 20000 in
theorem gswsX3_ofSpan_0 : GoodIn wsL_law [.code yX3_ofSpan cX3_ofSpan 4 (some .int)] := goodIn_r _ [506] (by decide +kernel) (by decide +kernel)
set_option maxRecDepth 20000 in
theorem gswsX3_ofSpan_r1 : GoodIn wsL_law wsX3_ofSpan_r1 := goodIn_r _ [109, 110, 41, 105, 106, 107, 16, 108, 111, 112, 113, 114, 29, 270, 271, 272, 40, 273, 57, 274, 135, 136, 33, 137] (by decide +kernel) (by decide +kernel)
set_option maxRecDepth 20000 in
theorem gswsX3_ofSpan_r2 : GoodIn wsL_law wsX3_ofSpan_r2 := goodIn_r _ [47, 275, 276, 277, 278, 55, 279, 280, 281, 282, 56, 311, 312, 313, 314, 120, 121, 122, 118, 119, 455, 292, 293, 294] (by decide +kernel) (by decide +kernel)
set_option maxRecDepth 20000 in
theorem gswsX3_ofSpan_r3 : GoodIn wsL_law wsX3_ofSpan_r3 := goodIn_r _ [295, 296, 297, 298, 299, 300, 301, 302, 303, 304] (by decide +kernel) (by decide +kernel)
set_option maxRecDepth 20000 in
theorem gswsX3_ofSpan_wsX30 : GoodIn wsL_law wsX30 := goodIn_r _ [595, 596, 597, 598, 599, 600] (by decide +kernel) (by decide +kernel)
set_option maxRecDepth 20000 in
theorem gswsX3_ofSpan_wsX10 : GoodIn wsL_law wsX10 := goodIn_r _ [603, 604, 605] (by decide +kernel) (by decide +kernel)
set_option maxRecDepth 20000 in
theorem gswsX3_ofSpan_wsX00 : GoodIn wsL_law wsX00 := goodIn_r _ [601] (by decide +kernel) (by decide +kernel)
set_option maxRecDepth 20000 in
theorem ggL_law_X3_ofSpan : GoodIn wsL_law wsX3_ofSpan := goodIn_ca (goodIn_ca (goodIn_c2 gswsX3_ofSpan_0 (goodIn_app (goodIn_app (goodIn_app (goodIn_app gswsX3_ofSpan_r1 (goodIn_app gswsX3_ofSpan_r2 gswsX3_ofSpan_r3)) gswsX3_ofSpan_wsX30) gswsX3_ofSpan_wsX10) gswsX3_ofSpan_wsX00)) (goodIn_sub (fun _ h => List.mem_append_left _ (List.mem_append_right _ h)) (by decide +kernel))) (goodIn_sub (fun _ h => List.mem_append_right _ h) (by decide +kernel))
set_option maxRecDepth 20000 in
theorem gL_law_X3_ofSpan : GoodIn wsL_law (wsV RL 38 RX3 yX3_ofSpan wsX3_ofSpan) := goodIn_app (goodIn_of _ (by decide +kernel)) ggL_law_X3_ofSpan
set_option maxRecDepth 20000 in
theorem ggL_law_X3_has : GoodIn wsL_law wsX3_has := goodIn_ca (goodIn_r _ [510, 105, 106, 107, 16, 108, 109, 110, 111, 112, 113, 114, 29, 511, 512, 513, 201, 135, 136, 33, 137, 47, 595, 596, 597, 598, 599, 600, 601] (by decide +kernel) (by decide +kernel)) (goodIn_sub (fun _ h => List.mem_append_left _ (List.mem_append_right _ h)) (by decide +kernel))
set_option maxRecDepth 20000 in
theorem gL_law_X3_has : GoodIn wsL_law (wsV RL 42 RX3 yX3_has wsX3_has) := goodIn_app (goodIn_of _ (by decide +kernel)) ggL_law_X3_has
set_option maxRecDepth 20000 in
theorem ggL_law_X3_far : GoodIn wsL_law wsX3_far := goodIn_ca (goodIn_r _ [517, 105, 106, 107, 16, 108, 109, 110, 111, 112, 113, 114, 29, 511, 512, 513, 201, 135, 136, 33, 137, 47, 595, 596, 597, 598, 599, 600, 601] (by decide +kernel) (by decide +kernel)) (goodIn_sub (fun _ h => List.mem_append_left _ (List.mem_append_right _ h)) (by decide +kernel))
set_option maxRecDepth 20000 in
theorem gL_law_X3_far : GoodIn wsL_law (wsV RL 46 RX3 yX3_far wsX3_far) := goodIn_app (goodIn_of _ (by decide +kernel)) ggL_law_X3_far
set_option maxRecDepth 20000 in
theorem gswsX3_cover_0 : GoodIn wsL_law [.code yX3_cover cX3_cover 4 (some .int)] := goodIn_r _ [521] (by decide +kernel) (by decide +kernel)
set_option maxRecDepth 20000 in
theorem gswsX3_cover_r1 : GoodIn wsL_law wsX3_cover_r1 := goodIn_r _ [105, 106, 107, 16, 108, 109, 110, 111, 112, 113, 114, 29, 190, 191, 192, 118, 119, 487, 488, 489, 490, 42, 201, 135] (by decide +kernel) (by decide +kernel)
set_option maxRecDepth 20000 in
theorem gswsX3_cover_r2 : GoodIn wsL_law wsX3_cover_r2 := goodIn_r _ [136, 33, 137, 47, 491, 492, 493, 494, 197, 198, 199, 200, 495, 496, 497, 498, 134] (by decide +kernel) (by decide +kernel)
set_option maxRecDepth 20000 in
theorem gswsX3_cover_wsX30 : GoodIn wsL_law wsX30 := goodIn_r _ [595, 596, 597, 598, 599, 600] (by decide +kernel) (by decide +kernel)
set_option maxRecDepth 20000 in
theorem gswsX3_cover_wsX00 : GoodIn wsL_law wsX00 := goodIn_r _ [601] (by decide +kernel) (by decide +kernel)
set_option maxRecDepth 20000 in
theorem ggL_law_X3_cover : GoodIn wsL_law wsX3_cover := goodIn_ca (goodIn_ca (goodIn_c2 gswsX3_cover_0 (goodIn_app (goodIn_app (goodIn_app gswsX3_cover_r1 gswsX3_cover_r2) gswsX3_cover_wsX30) gswsX3_cover_wsX00)) (goodIn_sub (fun _ h => List.mem_append_left _ (List.mem_append_right _ h)) (by decide +kernel))) (goodIn_sub (fun _ h => List.mem_append_right _ h) (by decide +kernel))
set_option maxRecDepth 20000 in
theorem gL_law_X3_cover : GoodIn wsL_law (wsV RL 55 RX3 yX3_cover wsX3_cover) := goodIn_app (goodIn_of _ (by decide +kernel)) ggL_law_X3_cover
set_option maxRecDepth 20000 in
theorem gswsX3_beside_0 : GoodIn wsL_law [.code yX3_beside cX3_beside 7 (some .int)] := goodIn_r _ [525] (by decide +kernel) (by decide +kernel)
set_option maxRecDepth 20000 in
theorem gswsX3_beside_r1 : GoodIn wsL_law wsX3_beside_r1 := goodIn_r _ [105, 106, 107, 16, 108, 109, 110, 111, 112, 113, 114, 29, 526, 527, 528, 33, 529, 134, 135, 136, 137, 47, 530, 531] (by decide +kernel) (by decide +kernel)
set_option maxRecDepth 20000 in
theorem gswsX3_beside_r2 : GoodIn wsL_law wsX3_beside_r2 := goodIn_r _ [532, 201] (by decide +kernel) (by decide +kernel)
set_option maxRecDepth 20000 in
theorem gswsX3_beside_wsX30 : GoodIn wsL_law wsX30 := goodIn_r _ [595, 596, 597, 598, 599, 600] (by decide +kernel) (by decide +kernel)
set_option maxRecDepth 20000 in
theorem gswsX3_beside_wsX00 : GoodIn wsL_law wsX00 := goodIn_r _ [601] (by decide +kernel) (by decide +kernel)
set_option maxRecDepth 20000 in
theorem ggL_law_X3_beside : GoodIn wsL_law wsX3_beside := goodIn_ca (goodIn_c2 gswsX3_beside_0 (goodIn_app (goodIn_app (goodIn_app gswsX3_beside_r1 gswsX3_beside_r2) gswsX3_beside_wsX30) gswsX3_beside_wsX00)) (goodIn_sub (fun _ h => List.mem_append_left _ (List.mem_append_right _ h)) (by decide +kernel))
set_option maxRecDepth 20000 in
theorem gL_law_X3_beside : GoodIn wsL_law (wsV RL 58 RX3 yX3_beside wsX3_beside) := goodIn_app (goodIn_of _ (by decide +kernel)) ggL_law_X3_beside
