set_option maxRecDepth 20000 in
theorem ggL_law_X3_meetWith : GoodIn wsL_law wsX3_meetWith := goodIn_ca (goodIn_ca (goodIn_r _ [536, 105, 106, 107, 16, 108, 109, 110, 111, 112, 113, 114, 29, 326, 327, 328, 118, 119, 201, 135, 136, 33, 137, 47, 595, 596, 597, 598, 599, 600, 601] (by decide +kernel) (by decide +kernel)) (goodIn_sub (fun _ h => List.mem_append_left _ (List.mem_append_right _ h)) (by decide +kernel))) (goodIn_sub (fun _ h => List.mem_append_right _ h) (by decide +kernel))
set_option maxRecDepth 20000 in
theorem gL_law_X3_meetWith : GoodIn wsL_law (wsV RL 61 RX3 yX3_meetWith wsX3_meetWith) := goodIn_app (goodIn_of _ (by decide +kernel)) ggL_law_X3_meetWith
set_option maxRecDepth 20000 in
theorem gswsX3_saves_0 : GoodIn wsL_law [.code yX3_saves cX3_saves 7 (some .int)] := goodIn_r _ [540] (by decide +kernel) (by decide +kernel)
set_option maxRecDepth 20000 in
theorem gswsX3_saves_r1 : GoodIn wsL_law wsX3_saves_r1 := goodIn_r _ [105, 106, 107, 16, 108, 109, 110, 111, 112, 113, 114, 29, 541, 542, 543, 190, 191, 192, 118, 119, 487, 488, 489, 490] (by decide +kernel) (by decide +kernel)
set_option maxRecDepth 20000 in
theorem gswsX3_saves_r2 : GoodIn wsL_law wsX3_saves_r2 := goodIn_r _ [42, 201, 135, 136, 33, 137, 47, 491, 492, 493, 494, 197, 198, 199, 200, 495, 496, 497, 498, 134] (by decide +kernel) (by decide +kernel)
set_option maxRecDepth 20000 in
theorem gswsX3_saves_wsX30 : GoodIn wsL_law wsX30 := goodIn_r _ [595, 596, 597, 598, 599, 600] (by decide +kernel) (by decide +kernel)
set_option maxRecDepth 20000 in
theorem gswsX3_saves_wsX00 : GoodIn wsL_law wsX00 := goodIn_r _ [601] (by decide +kernel) (by decide +kernel)
set_option maxRecDepth 20000 in
theorem ggL_law_X3_saves : GoodIn wsL_law wsX3_saves := goodIn_ca (goodIn_ca (goodIn_c2 gswsX3_saves_0 (goodIn_app (goodIn_app (goodIn_app gswsX3_saves_r1 gswsX3_saves_r2) gswsX3_saves_wsX30) gswsX3_saves_wsX00)) (goodIn_sub (fun _ h => List.mem_append_left _ (List.mem_append_right _ h)) (by decide +kernel))) (goodIn_sub (fun _ h => List.mem_append_right _ h) (by decide +kernel))
set_option maxRecDepth 20000 in
theorem gL_law_X3_saves : GoodIn wsL_law (wsV RL 64 RX3 yX3_saves wsX3_saves) := goodIn_app (goodIn_of _ (by decide +kernel)) ggL_law_X3_saves
set_option maxRecDepth 20000 in
theorem gswsX3_apart_0 : GoodIn wsL_law [.code yX3_apart cX3_apart 2 (some .int)] := goodIn_r _ [547] (by decide +kernel) (by decide +kernel)
set_option maxRecDepth 20000 in
theorem gswsX3_apart_r1 : GoodIn wsL_law wsX3_apart_r1 := goodIn_r _ [190, 191, 16, 192, 118, 119, 475, 476, 477, 478, 479, 480, 481, 482, 197, 198, 199, 200, 111, 112, 113, 114, 29, 201] (by decide +kernel) (by decide +kernel)
set_option maxRecDepth 20000 in
theorem gswsX3_apart_r2 : GoodIn wsL_law wsX3_apart_r2 := goodIn_r _ [135, 136, 33, 137, 47, 483, 484, 485, 486, 134] (by decide +kernel) (by decide +kernel)
set_option maxRecDepth 20000 in
theorem gswsX3_apart_wsX30 : GoodIn wsL_law wsX30 := goodIn_r _ [595, 596, 597, 598, 599, 600] (by decide +kernel) (by decide +kernel)
set_option maxRecDepth 20000 in
theorem gswsX3_apart_wsX00 : GoodIn wsL_law wsX00 := goodIn_r _ [601] (by decide +kernel) (by decide +kernel)
set_option maxRecDepth 20000 in
theorem ggL_law_X3_apart : GoodIn wsL_law wsX3_apart := goodIn_ca (goodIn_c2 gswsX3_apart_0 (goodIn_app (goodIn_app (goodIn_app gswsX3_apart_r1 gswsX3_apart_r2) gswsX3_apart_wsX30) gswsX3_apart_wsX00)) (goodIn_sub (fun _ h => List.mem_append_right _ h) (by decide +kernel))
set_option maxRecDepth 20000 in
theorem gL_law_X3_apart : GoodIn wsL_law (wsV RL 67 RX3 yX3_apart wsX3_apart) := goodIn_app (goodIn_of _ (by decide +kernel)) ggL_law_X3_apart
set_option maxRecDepth 20000 in
theorem gswsX3_pins_0 : GoodIn wsL_law [.code yX3_pins cX3_pins 2 (some .int)] := goodIn_r _ [551] (by decide +kernel) (by decide +kernel)
set_option maxRecDepth 20000 in
theorem gswsX3_pins_r1 : GoodIn wsL_law wsX3_pins_r1 := goodIn_r _ [190, 191, 16, 192, 118, 119, 475, 476, 477, 478, 479, 480, 481, 482, 197, 198, 199, 200, 111, 112, 113, 114, 29, 201] (by decide +kernel) (by decide +kernel)
set_option maxRecDepth 20000 in
theorem gswsX3_pins_r2 : GoodIn wsL_law wsX3_pins_r2 := goodIn_r _ [135, 136, 33, 137, 47, 483, 484, 485, 486, 134] (by decide +kernel) (by decide +kernel)
set_option maxRecDepth 20000 in
theorem gswsX3_pins_wsX30 : GoodIn wsL_law wsX30 := goodIn_r _ [595, 596, 597, 598, 599, 600] (by decide +kernel) (by decide +kernel)
set_option maxRecDepth 20000 in
theorem gswsX3_pins_wsX00 : GoodIn wsL_law wsX00 := goodIn_r _ [601] (by decide +kernel) (by decide +kernel)
set_option maxRecDepth 20000 in
theorem ggL_law_X3_pins : GoodIn wsL_law wsX3_pins := goodIn_ca (goodIn_c2 gswsX3_pins_0 (goodIn_app (goodIn_app (goodIn_app gswsX3_pins_r1 gswsX3_pins_r2) gswsX3_pins_wsX30) gswsX3_pins_wsX00)) (goodIn_sub (fun _ h => List.mem_append_right _ h) (by decide +kernel))
set_option maxRecDepth 20000 in
theorem gL_law_X3_pins : GoodIn wsL_law (wsV RL 70 RX3 yX3_pins wsX3_pins) := goodIn_app (goodIn_of _ (by decide +kernel)) ggL_law_X3_pins
set_option maxRecDepth 20000 in
theorem ggL_law_X4_draw : GoodIn wsL_law wsX4_draw := goodIn_r _ [69, 22, 23, 70, 71, 72, 73, 74, 75, 76, 590, 591, 592, 593, 594] (by decide +kernel) (by decide +kernel)
set_option maxRecDepth 20000 in
theorem gL_law_X4_draw : GoodIn wsL_law (wsV RL 73 RX4 yX4_draw wsX4_draw) := goodIn_app (goodIn_of _ (by decide +kernel)) ggL_law_X4_draw
set_option maxRecDepth 20000 in
theorem ggL_law_X3_clear : GoodIn wsL_law wsX3_clear := goodIn_ca (goodIn_r _ [556, 105, 106, 107, 16, 108, 109, 110, 111, 112, 113, 114, 29, 530, 531, 532, 201, 135, 136, 33, 137, 47, 595, 596, 597, 598, 599, 600, 601] (by decide +kernel) (by decide +kernel)) (goodIn_sub (fun _ h => List.mem_append_left _ (List.mem_append_right _ h)) (by decide +kernel))
set_option maxRecDepth 20000 in
theorem gL_law_X3_clear : GoodIn wsL_law (wsV RL 76 RX3 yX3_clear wsX3_clear) := goodIn_app (goodIn_of _ (by decide +kernel)) ggL_law_X3_clear
set_option maxRecDepth 20000 in
theorem gswsX3_thicker_0 : GoodIn wsL_law [.code yX3_thicker cX3_thicker 3 (some .int)] := goodIn_r _ [560] (by decide +kernel) (by decide +kernel)
set_option maxRecDepth 20000 in
theorem gswsX3_thicker_r1 : GoodIn wsL_law wsX3_thicker_r1 := goodIn_r _ [190, 191, 16, 192, 118, 119, 471, 472, 473, 474, 193, 194, 195, 196, 197, 198, 199, 200, 111, 112, 113, 114, 29, 201] (by decide +kernel) (by decide +kernel)
set_option maxRecDepth 20000 in
theorem gswsX3_thicker_r2 : GoodIn wsL_law wsX3_thicker_r2 := goodIn_r _ [135, 136, 33, 137, 47] (by decide +kernel) (by decide +kernel)
set_option maxRecDepth 20000 in
theorem gswsX3_thicker_wsX30 : GoodIn wsL_law wsX30 := goodIn_r _ [595, 596, 597, 598, 599, 600] (by decide +kernel) (by decide +kernel)
set_option maxRecDepth 20000 in
theorem gswsX3_thicker_wsX00 : GoodIn wsL_law wsX00 := goodIn_r _ [601] (by decide +kernel) (by decide +kernel)
set_option maxRecDepth 20000 in
theorem ggL_law_X3_thicker : GoodIn wsL_law wsX3_thicker := goodIn_ca (goodIn_c2 gswsX3_thicker_0 (goodIn_app (goodIn_app (goodIn_app gswsX3_thicker_r1 gswsX3_thicker_r2) gswsX3_thicker_wsX30) gswsX3_thicker_wsX00)) (goodIn_sub (fun _ h => List.mem_append_right _ h) (by decide +kernel))
set_option maxRecDepth 20000 in
theorem gL_law_X3_thicker : GoodIn wsL_law (wsV RL 79 RX3 yX3_thicker wsX3_thicker) := goodIn_app (goodIn_of _ (by decide +kernel)) ggL_law_X3_thicker
set_option maxRecDepth 20000 in
theorem gswsX3_ofFunction_0 : GoodIn wsL_law [.code yX3_ofFunction cX3_ofFunction 4 (some .int)] := goodIn_r _ [564] (by decide +kernel) (by decide +kernel)
set_option maxRecDepth 20000 in
theorem gswsX3_ofFunction_r1 : GoodIn wsL_law wsX3_ofFunction_r1 := goodIn_r _ [153, 154, 155, 16, 156, 109, 110, 31, 120, 121, 122, 118, 119, 459, 460, 461, 167, 168, 169, 36, 170, 171, 158, 159] (by decide +kernel) (by decide +kernel)
set_option maxRecDepth 20000 in
theorem gswsX3_ofFunction_r2 : GoodIn wsL_law wsX3_ofFunction_r2 := goodIn_r _ [160, 51, 462, 421, 422, 423, 166, 85, 6, 86, 165, 82, 83, 463, 413, 414, 415, 464, 465, 466, 467, 468, 469, 470] (by decide +kernel) (by decide +kernel)
set_option maxRecDepth 20000 in
theorem gswsX3_ofFunction_r3 : GoodIn wsL_law wsX3_ofFunction_r3 := goodIn_r _ [157] (by decide +kernel) (by decide +kernel)
set_option maxRecDepth 20000 in
theorem gswsX3_ofFunction_wsX30 : GoodIn wsL_law wsX30 := goodIn_r _ [595, 596, 597, 598, 599, 600] (by decide +kernel) (by decide +kernel)
set_option maxRecDepth 20000 in
theorem gswsX3_ofFunction_wsX20 : GoodIn wsL_law wsX20 := goodIn_r _ [602] (by decide +kernel) (by decide +kernel)
set_option maxRecDepth 20000 in
theorem ggL_law_X3_ofFunction : GoodIn wsL_law wsX3_ofFunction := goodIn_ca (goodIn_ca (goodIn_c2 gswsX3_ofFunction_0 (goodIn_app (goodIn_app (goodIn_app gswsX3_ofFunction_r1 (goodIn_app gswsX3_ofFunction_r2 gswsX3_ofFunction_r3)) gswsX3_ofFunction_wsX30) gswsX3_ofFunction_wsX20)) (goodIn_sub (fun _ h => List.mem_append_left _ (List.mem_append_right _ h)) (by decide +kernel))) (goodIn_sub (fun _ h => List.mem_append_right _ h) (by decide +kernel))
set_option maxRecDepth 20000 in
theorem gL_law_X3_ofFunction : GoodIn wsL_law (wsV RL 82 RX3 yX3_ofFunction wsX3_ofFunction) := goodIn_app (goodIn_of _ (by decide +kernel)) ggL_law_X3_ofFunction
set_option maxRecDepth 20000 in
theorem gswsX3_area_0 : GoodIn wsL_law [.code yX3_area cX3_area 4 (some .int)] := goodIn_r _ [568] (by decide +kernel) (by decide +kernel)
set_option maxRecDepth 20000 in
theorem gswsX3_area_r1 : GoodIn wsL_law wsX3_area_r1 := goodIn_r _ [153, 154, 155, 16, 156, 109, 110, 31, 105, 106, 107, 108, 111, 112, 113, 114, 29, 569, 570, 571, 201, 135, 136, 33] (by decide +kernel) (by decide +kernel)
set_option maxRecDepth 20000 in
theorem gswsX3_area_r2 : GoodIn wsL_law wsX3_area_r2 := goodIn_r _ [137, 47, 157, 158, 159, 36, 160, 51] (by decide +kernel) (by decide +kernel)
set_option maxRecDepth 20000 in
theorem gswsX3_area_wsX30 : GoodIn wsL_law wsX30 := goodIn_r _ [595, 596, 597, 598, 599, 600] (by decide +kernel) (by decide +kernel)
set_option maxRecDepth 20000 in
theorem gswsX3_area_wsX00 : GoodIn wsL_law wsX00 := goodIn_r _ [601] (by decide +kernel) (by decide +kernel)
set_option maxRecDepth 20000 in
theorem gswsX3_area_wsX20 : GoodIn wsL_law wsX20 := goodIn_r _ [602] (by decide +kernel) (by decide +kernel)
set_option maxRecDepth 20000 in
theorem ggL_law_X3_area : GoodIn wsL_law wsX3_area := goodIn_ca (goodIn_c2 gswsX3_area_0 (goodIn_app (goodIn_app (goodIn_app (goodIn_app gswsX3_area_r1 gswsX3_area_r2) gswsX3_area_wsX30) gswsX3_area_wsX00) gswsX3_area_wsX20)) (goodIn_sub (fun _ h => List.mem_append_left _ (List.mem_append_right _ h)) (by decide +kernel))
set_option maxRecDepth 20000 in
theorem gL_law_X3_area : GoodIn wsL_law (wsV RL 85 RX3 yX3_area wsX3_area) := goodIn_app (goodIn_of _ (by decide +kernel)) ggL_law_X3_area
set_option maxRecDepth 20000 in
theorem ggL_law_X3_value : GoodIn wsL_law wsX3_value := goodIn_ca (goodIn_r _ [575, 153, 154, 155, 16, 156, 109, 110, 31, 511, 512, 513, 157, 158, 159, 36, 160, 51, 595, 596, 597, 598, 599, 600, 602] (by decide +kernel) (by decide +kernel)) (goodIn_sub (fun _ h => List.mem_append_left _ (List.mem_append_right _ h)) (by decide +kernel))
set_option maxRecDepth 20000 in
theorem gL_law_X3_value : GoodIn wsL_law (wsV RL 88 RX3 yX3_value wsX3_value) := goodIn_app (goodIn_of _ (by decide +kernel)) ggL_law_X3_value
set_option maxRecDepth 20000 in
theorem gswsX3_mean_0 : GoodIn wsL_law [.code yX3_mean cX3_mean 6 (some .double)] := goodIn_r _ [579] (by decide +kernel) (by decide +kernel)
set_option maxRecDepth 20000 in
theorem gswsX3_mean_r1 : GoodIn wsL_law wsX3_mean_r1 := goodIn_r _ [153, 154, 155, 16, 156, 109, 110, 31, 105, 106, 107, 108, 111, 112, 113, 114, 29, 446, 447, 448, 33, 449, 134, 135] (by decide +kernel) (by decide +kernel)
set_option maxRecDepth 20000 in
theorem gswsX3_mean_r2 : GoodIn wsL_law wsX3_mean_r2 := goodIn_r _ [136, 137, 47, 569, 570, 571, 201, 157, 158, 159, 36, 160, 51] (by decide +kernel) (by decide +kernel)
set_option maxRecDepth 20000 in
theorem gswsX3_mean_wsX30 : GoodIn wsL_law wsX30 := goodIn_r _ [595, 596, 597, 598, 599, 600] (by decide +kernel) (by decide +kernel)
set_option maxRecDepth 20000 in
theorem gswsX3_mean_wsX00 : GoodIn wsL_law wsX00 := goodIn_r _ [601] (by decide +kernel) (by decide +kernel)
set_option maxRecDepth 20000 in
theorem gswsX3_mean_wsX20 : GoodIn wsL_law wsX20 := goodIn_r _ [602] (by decide +kernel) (by decide +kernel)
set_option maxRecDepth 20000 in
theorem ggL_law_X3_mean : GoodIn wsL_law wsX3_mean := goodIn_ca (goodIn_c2 gswsX3_mean_0 (goodIn_app (goodIn_app (goodIn_app (goodIn_app gswsX3_mean_r1 gswsX3_mean_r2) gswsX3_mean_wsX30) gswsX3_mean_wsX00) gswsX3_mean_wsX20)) (goodIn_sub (fun _ h => List.mem_append_left _ (List.mem_append_right _ h)) (by decide +kernel))
set_option maxRecDepth 20000 in
theorem gL_law_X3_mean : GoodIn wsL_law (wsV RL 91 RX3 yX3_mean wsX3_mean) := goodIn_app (goodIn_of _ (by decide +kernel)) ggL_law_X3_mean
set_option maxRecDepth 20000 in
theorem ggL_law_X3_best : GoodIn wsL_law wsX3_best := goodIn_ca (goodIn_ca (goodIn_r _ [583, 118, 119, 153, 154, 155, 16, 156, 109, 110, 31, 468, 469, 470, 157, 158, 159, 36, 160, 51, 595, 596, 597, 598, 599, 600, 602] (by decide +kernel) (by decide +kernel)) (goodIn_sub (fun _ h => List.mem_append_right _ h) (by decide +kernel))) (goodIn_sub (fun _ h => List.mem_append_left _ (List.mem_append_right _ h)) (by decide +kernel))
set_option maxRecDepth 20000 in
theorem gL_law_X3_best : GoodIn wsL_law (wsV RL 95 RX3 yX3_best wsX3_best) := goodIn_app (goodIn_of _ (by decide +kernel)) ggL_law_X3_best
set_option maxRecDepth 20000 in
theorem gswsX3_join_0 : GoodIn wsL_law [.code yX3_join cX3_join 9 (some .int)] := goodIn_r _ [213] (by decide +kernel) (by decide +kernel)
set_option maxRecDepth 20000 in
theorem gswsX3_join_r1 : GoodIn wsL_law wsX3_join_r1 := goodIn_r _ [105, 106, 107, 16, 108, 109, 110, 111, 112, 113, 114, 29, 120, 121, 122, 118, 119, 201, 135, 136, 33, 137, 47, 214] (by decide +kernel) (by decide +kernel)
set_option maxRecDepth 20000 in
theorem gswsX3_join_r2 : GoodIn wsL_law wsX3_join_r2 := goodIn_r _ [215, 216, 217, 139, 140, 141, 218, 219, 220, 221, 134] (by decide +kernel) (by decide +kernel)
set_option maxRecDepth 20000 in
theorem gswsX3_join_wsX30 : GoodIn wsL_law wsX30 := goodIn_r _ [595, 596, 597, 598, 599, 600] (by decide +kernel) (by decide +kernel)
set_option maxRecDepth 20000 in
theorem gswsX3_join_wsX00 : GoodIn wsL_law wsX00 := goodIn_r _ [601] (by decide +kernel) (by decide +kernel)
set_option maxRecDepth 20000 in
theorem ggL_law_X3_join : GoodIn wsL_law wsX3_join := goodIn_ca (goodIn_ca (goodIn_c2 gswsX3_join_0 (goodIn_app (goodIn_app (goodIn_app gswsX3_join_r1 gswsX3_join_r2) gswsX3_join_wsX30) gswsX3_join_wsX00)) (goodIn_sub (fun _ h => List.mem_append_left _ (List.mem_append_right _ h)) (by decide +kernel))) (goodIn_sub (fun _ h => List.mem_append_right _ h) (by decide +kernel))
set_option maxRecDepth 20000 in
theorem gL_law_X3_join : GoodIn wsL_law (wsV RL 98 RX3 yX3_join wsX3_join) := goodIn_app (goodIn_of _ (by decide +kernel)) ggL_law_X3_join
set_option maxRecDepth 20000 in
theorem gswsX3_move_0 : GoodIn wsL_law [.code yX3_move cX3_move 5 (some .int)] := goodIn_r _ [325] (by decide +kernel) (by decide +kernel)
set_option maxRecDepth 20000 in
theorem gswsX3_move_r1 : GoodIn wsL_law wsX3_move_r1 := goodIn_r _ [34, 105, 106, 107, 16, 108, 109, 110, 111, 112, 113, 114, 29, 326, 327, 328, 118, 119, 329, 330, 331, 33, 332, 134] (by decide +kernel) (by decide +kernel)
set_option maxRecDepth 20000 in
theorem gswsX3_move_r2 : GoodIn wsL_law wsX3_move_r2 := goodIn_r _ [135, 136, 137, 47, 138, 139, 140, 141, 201, 217, 218, 219, 220, 221] (by decide +kernel) (by decide +kernel)
set_option maxRecDepth 20000 in
theorem gswsX3_move_wsX30 : GoodIn wsL_law wsX30 := goodIn_r _ [595, 596, 597, 598, 599, 600] (by decide +kernel) (by decide +kernel)
set_option maxRecDepth 20000 in
theorem gswsX3_move_wsX00 : GoodIn wsL_law wsX00 := goodIn_r _ [601] (by decide +kernel) (by decide +kernel)
set_option maxRecDepth 20000 in
theorem ggL_law_X3_move : GoodIn wsL_law wsX3_move := goodIn_ca (goodIn_ca (goodIn_c2 gswsX3_move_0 (goodIn_app (goodIn_app (goodIn_app gswsX3_move_r1 gswsX3_move_r2) gswsX3_move_wsX30) gswsX3_move_wsX00)) (goodIn_sub (fun _ h => List.mem_append_left _ (List.mem_append_right _ h)) (by decide +kernel))) (goodIn_sub (fun _ h => List.mem_append_right _ h) (by decide +kernel))
set_option maxRecDepth 20000 in
theorem gL_law_X3_move : GoodIn wsL_law (wsV RL 102 RX3 yX3_move wsX3_move) := goodIn_app (goodIn_of _ (by decide +kernel)) ggL_law_X3_move
set_option maxRecDepth 20000 in
theorem gswsX3_mix_0 : GoodIn wsL_law [.code yX3_mix cX3_mix 9 (some .int)] := goodIn_r _ [364] (by decide +kernel) (by decide +kernel)
set_option maxRecDepth 20000 in
theorem gswsX3_mix_r1 : GoodIn wsL_law wsX3_mix_r1 := goodIn_r _ [153, 154, 155, 16, 156, 109, 110, 31, 120, 121, 122, 118, 119, 157, 158, 159, 36, 160, 51, 365, 366, 367, 368, 82] (by decide +kernel) (by decide +kernel)
set_option maxRecDepth 20000 in
theorem gswsX3_mix_r2 : GoodIn wsL_law wsX3_mix_r2 := goodIn_r _ [6, 83, 369, 85, 86, 161, 162, 163, 164, 165, 166, 167, 168, 169, 170, 171] (by decide +kernel) (by decide +kernel)
set_option maxRecDepth 20000 in
theorem gswsX3_mix_wsX30 : GoodIn wsL_law wsX30 := goodIn_r _ [595, 596, 597, 598, 599, 600] (by decide +kernel) (by decide +kernel)
set_option maxRecDepth 20000 in
theorem gswsX3_mix_wsX20 : GoodIn wsL_law wsX20 := goodIn_r _ [602] (by decide +kernel) (by decide +kernel)
set_option maxRecDepth 20000 in
theorem ggL_law_X3_mix : GoodIn wsL_law wsX3_mix := goodIn_ca (goodIn_ca (goodIn_c2 gswsX3_mix_0 (goodIn_app (goodIn_app (goodIn_app gswsX3_mix_r1 gswsX3_mix_r2) gswsX3_mix_wsX30) gswsX3_mix_wsX20)) (goodIn_sub (fun _ h => List.mem_append_left _ (List.mem_append_right _ h)) (by decide +kernel))) (goodIn_sub (fun _ h => List.mem_append_right _ h) (by decide +kernel))
set_option maxRecDepth 20000 in
theorem gL_law_X3_mix : GoodIn wsL_law (wsV RL 105 RX3 yX3_mix wsX3_mix) := goodIn_app (goodIn_of _ (by decide +kernel)) ggL_law_X3_mix
set_option maxRecDepth 20000 in
theorem gswsX3_turn_0 : GoodIn wsL_law [.code yX3_turn cX3_turn 5 (some .int)] := goodIn_r _ [378] (by decide +kernel) (by decide +kernel)
set_option maxRecDepth 20000 in
theorem gswsX3_turn_r1 : GoodIn wsL_law wsX3_turn_r1 := goodIn_r _ [118, 119, 153, 154, 155, 16, 156, 109, 110, 31, 120, 121, 122, 379, 380, 381, 382, 37, 383, 384, 385, 36, 386, 171] (by decide +kernel) (by decide +kernel)
set_option maxRecDepth 20000 in
theorem gswsX3_turn_r2 : GoodIn wsL_law wsX3_turn_r2 := goodIn_r _ [158, 159, 160, 51, 387, 162, 163, 164, 165, 82, 6, 83, 166, 85, 86, 388, 389, 390, 391, 392, 393, 394, 395, 396] (by decide +kernel) (by decide +kernel)
set_option maxRecDepth 20000 in
theorem gswsX3_turn_r3 : GoodIn wsL_law wsX3_turn_r3 := goodIn_r _ [397, 398, 399, 400, 401, 402, 403, 303, 304, 404, 405, 406, 407, 408, 409, 410, 411, 412, 413, 414, 415, 416, 417, 418] (by decide +kernel) (by decide +kernel)
set_option maxRecDepth 20000 in
theorem gswsX3_turn_r4 : GoodIn wsL_law wsX3_turn_r4 := goodIn_r _ [419, 420, 421, 422, 423, 167, 168, 169, 170] (by decide +kernel) (by decide +kernel)
set_option maxRecDepth 20000 in
theorem gswsX3_turn_wsX30 : GoodIn wsL_law wsX30 := goodIn_r _ [595, 596, 597, 598, 599, 600] (by decide +kernel) (by decide +kernel)
set_option maxRecDepth 20000 in
theorem gswsX3_turn_wsX20 : GoodIn wsL_law wsX20 := goodIn_r _ [602] (by decide +kernel) (by decide +kernel)
set_option maxRecDepth 20000 in
theorem ggL_law_X3_turn : GoodIn wsL_law wsX3_turn := goodIn_ca (goodIn_ca (goodIn_c2 gswsX3_turn_0 (goodIn_app (goodIn_app (goodIn_app gswsX3_turn_r1 (goodIn_app gswsX3_turn_r2 (goodIn_app gswsX3_turn_r3 gswsX3_turn_r4))) gswsX3_turn_wsX30) gswsX3_turn_wsX20)) (goodIn_sub (fun _ h => List.mem_append_right _ h) (by decide +kernel))) (goodIn_sub (fun _ h => List.mem_append_left _ (List.mem_append_right _ h)) (by decide +kernel))
set_option maxRecDepth 20000 in
theorem gL_law_X3_turn : GoodIn wsL_law (wsV RL 108 RX3 yX3_turn wsX3_turn) := goodIn_app (goodIn_of _ (by decide +kernel)) ggL_law_X3_turn
set_option maxRecDepth 20000 in
theorem gswsX3_raise_0 : GoodIn wsL_law [.code yX3_raise cX3_raise 9 (some .int)] := goodIn_r _ [152] (by decide +kernel) (by decide +kernel)
set_option maxRecDepth 20000 in
theorem gswsX3_raise_r1 : GoodIn wsL_law wsX3_raise_r1 := goodIn_r _ [118, 119, 153, 154, 155, 16, 156, 109, 110, 31, 115, 116, 117, 120, 121, 122, 126, 127, 128, 123, 124, 125, 157, 158] (by decide +kernel) (by decide +kernel)
set_option maxRecDepth 20000 in
theorem gswsX3_raise_r2 : GoodIn wsL_law wsX3_raise_r2 := goodIn_r _ [159, 36, 160, 51, 161, 162, 163, 164, 165, 82, 6, 83, 166, 85, 86, 167, 168, 169, 170, 171] (by decide +kernel) (by decide +kernel)
set_option maxRecDepth 20000 in
theorem gswsX3_raise_wsX30 : GoodIn wsL_law wsX30 := goodIn_r _ [595, 596, 597, 598, 599, 600] (by decide +kernel) (by decide +kernel)
set_option maxRecDepth 20000 in
theorem gswsX3_raise_wsX20 : GoodIn wsL_law wsX20 := goodIn_r _ [602] (by decide +kernel) (by decide +kernel)
set_option maxRecDepth 20000 in
theorem ggL_law_X3_raise : GoodIn wsL_law wsX3_raise := goodIn_ca (goodIn_ca (goodIn_c2 gswsX3_raise_0 (goodIn_app (goodIn_app (goodIn_app gswsX3_raise_r1 gswsX3_raise_r2) gswsX3_raise_wsX30) gswsX3_raise_wsX20)) (goodIn_sub (fun _ h => List.mem_append_right _ h) (by decide +kernel))) (goodIn_sub (fun _ h => List.mem_append_left _ (List.mem_append_right _ h)) (by decide +kernel))
set_option maxRecDepth 20000 in
theorem gL_law_X3_raise : GoodIn wsL_law (wsV RL 111 RX3 yX3_raise wsX3_raise) := goodIn_app (goodIn_of _ (by decide +kernel)) ggL_law_X3_raise
set_option maxRecDepth 20000 in
theorem gswsX3_change_0 : GoodIn wsL_law [.code yX3_change cX3_change 4 (some .int)] := goodIn_r _ [241] (by decide +kernel) (by decide +kernel)
set_option maxRecDepth 20000 in
theorem gswsX3_change_r1 : GoodIn wsL_law wsX3_change_r1 := goodIn_r _ [105, 106, 107, 16, 108, 109, 110, 111, 112, 113, 114, 29, 120, 121, 122, 118, 119, 242, 243, 244, 245, 246, 247, 248] (by decide +kernel) (by decide +kernel)
set_option maxRecDepth 20000 in
theorem gswsX3_change_r2 : GoodIn wsL_law wsX3_change_r2 := goodIn_r _ [33, 249, 134, 135, 136, 137, 47, 138, 139, 140, 141, 250, 251, 252, 253, 254, 255, 256, 257, 258, 259, 260, 261, 262] (by decide +kernel) (by decide +kernel)
set_option maxRecDepth 20000 in
theorem gswsX3_change_r3 : GoodIn wsL_law wsX3_change_r3 := goodIn_r _ [263, 264, 265, 266, 267, 268, 269, 41, 270, 271, 272, 40, 273, 57, 274, 275, 276, 277, 278, 55, 279, 280, 281, 282] (by decide +kernel) (by decide +kernel)
set_option maxRecDepth 20000 in
theorem gswsX3_change_r4 : GoodIn wsL_law wsX3_change_r4 := goodIn_r _ [56, 283, 284, 285, 286, 287, 288, 289, 290, 291, 292, 293, 294, 295, 296, 297, 298, 299, 300, 301, 302, 303, 304, 129] (by decide +kernel) (by decide +kernel)
set_option maxRecDepth 20000 in
theorem gswsX3_change_r5 : GoodIn wsL_law wsX3_change_r5 := goodIn_r _ [130, 131, 132, 133, 85, 6, 86, 305, 306, 307, 308, 309, 310, 311, 312, 313, 314, 218, 219, 220, 221] (by decide +kernel) (by decide +kernel)
set_option maxRecDepth 20000 in
theorem gswsX3_change_wsX30 : GoodIn wsL_law wsX30 := goodIn_r _ [595, 596, 597, 598, 599, 600] (by decide +kernel) (by decide +kernel)
set_option maxRecDepth 20000 in
theorem gswsX3_change_wsX00 : GoodIn wsL_law wsX00 := goodIn_r _ [601] (by decide +kernel) (by decide +kernel)
set_option maxRecDepth 20000 in
theorem gswsX3_change_wsX10 : GoodIn wsL_law wsX10 := goodIn_r _ [603, 604, 605] (by decide +kernel) (by decide +kernel)
set_option maxRecDepth 20000 in
theorem ggL_law_X3_change : GoodIn wsL_law wsX3_change := goodIn_ca (goodIn_ca (goodIn_c2 gswsX3_change_0 (goodIn_app (goodIn_app (goodIn_app (goodIn_app gswsX3_change_r1 (goodIn_app gswsX3_change_r2 (goodIn_app gswsX3_change_r3 (goodIn_app gswsX3_change_r4 gswsX3_change_r5)))) gswsX3_change_wsX30) gswsX3_change_wsX00) gswsX3_change_wsX10)) (goodIn_sub (fun _ h => List.mem_append_left _ (List.mem_append_right _ h)) (by decide +kernel))) (goodIn_sub (fun _ h => List.mem_append_right _ h) (by decide +kernel))
set_option maxRecDepth 20000 in
theorem gL_law_X3_change : GoodIn wsL_law (wsV RL 115 RX3 yX3_change wsX3_change) := goodIn_app (goodIn_of _ (by decide +kernel)) ggL_law_X3_change
