theorem dL_span_0 : decode cL_span 0 = .ok (.aload 6, 2) := by decide +kernel
theorem dL_span_2 : decode cL_span 2 = .ok (.iconst 0, 1) := by decide +kernel
theorem dL_span_3 : decode cL_span 3 = .ok (.aload_n 0, 1) := by decide +kernel
theorem dL_span_4 : decode cL_span 4 = .ok (.iload_n 1, 1) := by decide +kernel
theorem dL_span_5 : decode cL_span 5 = .ok (.iload_n 2, 1) := by decide +kernel
theorem dL_span_6 : decode cL_span 6 = .ok (.iload_n 3, 1) := by decide +kernel
theorem dL_span_7 : decode cL_span 7 = .ok (.iload 4, 2) := by decide +kernel
theorem dL_span_9 : decode cL_span 9 = .ok (.iload 5, 2) := by decide +kernel
theorem dL_span_11 : decode cL_span 11 = .ok (.invokevirtual 7, 3) := by decide +kernel
theorem dL_span_14 : decode cL_span 14 = .ok (.i2l, 1) := by decide +kernel
theorem dL_span_15 : decode cL_span 15 = .ok (.lastore, 1) := by decide +kernel
theorem dL_span_16 : decode cL_span 16 = .ok (.goto 11, 3) := by decide +kernel
theorem dL_span_19 : decode cL_span 19 = .ok (.astore 7, 2) := by decide +kernel
theorem dL_span_21 : decode cL_span 21 = .ok (.iconst 1, 1) := by decide +kernel
theorem dL_span_22 : decode cL_span 22 = .ok (.ireturn, 1) := by decide +kernel
theorem dL_span_23 : decode cL_span 23 = .ok (.astore 7, 2) := by decide +kernel
theorem dL_span_25 : decode cL_span 25 = .ok (.iconst 2, 1) := by decide +kernel
theorem dL_span_26 : decode cL_span 26 = .ok (.ireturn, 1) := by decide +kernel
theorem dL_span_27 : decode cL_span 27 = .ok (.iconst 0, 1) := by decide +kernel
theorem dL_span_28 : decode cL_span 28 = .ok (.ireturn, 1) := by decide +kernel
set_option maxRecDepth 20000 in
theorem ggL_join_X3_join : GoodIn wsL_join wsX3_join := goodIn_ca (goodIn_ca (goodIn_r _ [7, 8, 9, 10, 6, 11, 12, 13, 14, 15, 16, 17, 18, 19, 20, 21, 22, 23, 24, 25, 26, 27, 28, 29, 30, 31, 32, 33, 34, 35, 36, 37, 38, 39, 40, 41, 42, 43, 44, 45, 46, 47, 48] (by decide +kernel) (by decide +kernel)) (goodIn_sub (fun _ h => List.mem_cons_of_mem _ (List.mem_append_left _ (List.mem_append_right _ h))) (by decide +kernel))) (goodIn_sub (fun _ h => List.mem_cons_of_mem _ (List.mem_append_right _ h)) (by decide +kernel))
set_option maxRecDepth 20000 in
theorem gL_join_X3_join : GoodIn wsL_join (wsV RL 17 RX3 yX3_join wsX3_join) := goodIn_app (goodIn_of _ (by decide +kernel)) ggL_join_X3_join
theorem dL_join_0 : decode cL_join 0 = .ok (.aload 5, 2) := by decide +kernel
theorem dL_join_2 : decode cL_join 2 = .ok (.iconst 0, 1) := by decide +kernel
theorem dL_join_3 : decode cL_join 3 = .ok (.aload_n 0, 1) := by decide +kernel
theorem dL_join_4 : decode cL_join 4 = .ok (.iload_n 1, 1) := by decide +kernel
theorem dL_join_5 : decode cL_join 5 = .ok (.iload_n 2, 1) := by decide +kernel
theorem dL_join_6 : decode cL_join 6 = .ok (.iload_n 3, 1) := by decide +kernel
theorem dL_join_7 : decode cL_join 7 = .ok (.iload 4, 2) := by decide +kernel
theorem dL_join_9 : decode cL_join 9 = .ok (.invokevirtual 17, 3) := by decide +kernel
theorem dL_join_12 : decode cL_join 12 = .ok (.i2l, 1) := by decide +kernel
theorem dL_join_13 : decode cL_join 13 = .ok (.lastore, 1) := by decide +kernel
theorem dL_join_14 : decode cL_join 14 = .ok (.goto 11, 3) := by decide +kernel
theorem dL_join_17 : decode cL_join 17 = .ok (.astore 6, 2) := by decide +kernel
theorem dL_join_19 : decode cL_join 19 = .ok (.iconst 1, 1) := by decide +kernel
theorem dL_join_20 : decode cL_join 20 = .ok (.ireturn, 1) := by decide +kernel
theorem dL_join_21 : decode cL_join 21 = .ok (.astore 6, 2) := by decide +kernel
theorem dL_join_23 : decode cL_join 23 = .ok (.iconst 2, 1) := by decide +kernel
theorem dL_join_24 : decode cL_join 24 = .ok (.ireturn, 1) := by decide +kernel
theorem dL_join_25 : decode cL_join 25 = .ok (.iconst 0, 1) := by decide +kernel
theorem dL_join_26 : decode cL_join 26 = .ok (.ireturn, 1) := by decide +kernel
set_option maxRecDepth 20000 in
theorem ggL_change_X3_change : GoodIn wsL_change wsX3_change := goodIn_ca (goodIn_ca (goodIn_r _ [7, 8, 9, 10, 6, 11, 12, 13, 14, 15, 16, 17, 18, 19, 20, 21, 22, 23, 24, 25, 26, 27, 28, 29, 30, 31, 32, 33, 34, 35, 36, 37, 38, 39, 40, 41, 42, 43, 44, 45, 46, 47, 48, 49, 50, 51, 52, 53, 54, 55, 56, 57, 58, 59, 60, 61, 62, 63, 64, 65, 66, 67, 68, 69, 70, 71, 72, 73, 74, 75, 76, 77, 78, 79, 80, 81, 82, 83, 84, 85, 86, 87, 88, 89, 90, 91, 92, 93, 94, 95, 96, 97, 98, 99, 100, 101, 102, 103, 104, 105, 106, 107, 108, 109, 110, 111, 112, 113, 114, 115, 116, 117, 118, 119, 120, 121, 122, 123, 124, 125, 126, 127, 128, 129, 130, 131, 132, 133] (by decide +kernel) (by decide +kernel)) (goodIn_sub (fun _ h => List.mem_cons_of_mem _ (List.mem_append_left _ (List.mem_append_right _ h))) (by decide +kernel))) (goodIn_sub (fun _ h => List.mem_cons_of_mem _ (List.mem_append_right _ h)) (by decide +kernel))
set_option maxRecDepth 20000 in
theorem gL_change_X3_change : GoodIn wsL_change (wsV RL 21 RX3 yX3_change wsX3_change) := goodIn_app (goodIn_of _ (by decide +kernel)) ggL_change_X3_change
theorem dL_change_0 : decode cL_change 0 = .ok (.aload_n 3, 1) := by decide +kernel
theorem dL_change_1 : decode cL_change 1 = .ok (.iconst 0, 1) := by decide +kernel
theorem dL_change_2 : decode cL_change 2 = .ok (.aload_n 0, 1) := by decide +kernel
theorem dL_change_3 : decode cL_change 3 = .ok (.iload_n 1, 1) := by decide +kernel
theorem dL_change_4 : decode cL_change 4 = .ok (.iload_n 2, 1) := by decide +kernel
theorem dL_change_5 : decode cL_change 5 = .ok (.invokevirtual 21, 3) := by decide +kernel
theorem dL_change_8 : decode cL_change 8 = .ok (.i2l, 1) := by decide +kernel
theorem dL_change_9 : decode cL_change 9 = .ok (.lastore, 1) := by decide +kernel
theorem dL_change_10 : decode cL_change 10 = .ok (.goto 11, 3) := by decide +kernel
theorem dL_change_13 : decode cL_change 13 = .ok (.astore 4, 2) := by decide +kernel
theorem dL_change_15 : decode cL_change 15 = .ok (.iconst 1, 1) := by decide +kernel
theorem dL_change_16 : decode cL_change 16 = .ok (.ireturn, 1) := by decide +kernel
theorem dL_change_17 : decode cL_change 17 = .ok (.astore 4, 2) := by decide +kernel
theorem dL_change_19 : decode cL_change 19 = .ok (.iconst 2, 1) := by decide +kernel
theorem dL_change_20 : decode cL_change 20 = .ok (.ireturn, 1) := by decide +kernel
theorem dL_change_21 : decode cL_change 21 = .ok (.iconst 0, 1) := by decide +kernel
theorem dL_change_22 : decode cL_change 22 = .ok (.ireturn, 1) := by decide +kernel
set_option maxRecDepth 20000 in
theorem ggL_move_X3_move : GoodIn wsL_move wsX3_move := goodIn_ca (goodIn_ca (goodIn_r _ [7, 8, 9, 10, 11, 6, 12, 13, 14, 15, 16, 17, 18, 19, 20, 21, 22, 23, 24, 25, 26, 27, 28, 29, 30, 31, 32, 33, 34, 35, 36, 37, 38, 39, 40, 41, 42, 43, 44, 45, 46, 47, 48, 49, 50, 51] (by decide +kernel) (by decide +kernel)) (goodIn_sub (fun _ h => List.mem_cons_of_mem _ (List.mem_append_left _ (List.mem_append_right _ h))) (by decide +kernel))) (goodIn_sub (fun _ h => List.mem_cons_of_mem _ (List.mem_append_right _ h)) (by decide +kernel))
set_option maxRecDepth 20000 in
theorem gL_move_X3_move : GoodIn wsL_move (wsV RL 25 RX3 yX3_move wsX3_move) := goodIn_app (goodIn_of _ (by decide +kernel)) ggL_move_X3_move
theorem dL_move_0 : decode cL_move 0 = .ok (.aload_n 3, 1) := by decide +kernel
theorem dL_move_1 : decode cL_move 1 = .ok (.iconst 0, 1) := by decide +kernel
theorem dL_move_2 : decode cL_move 2 = .ok (.aload_n 0, 1) := by decide +kernel
theorem dL_move_3 : decode cL_move 3 = .ok (.iload_n 1, 1) := by decide +kernel
theorem dL_move_4 : decode cL_move 4 = .ok (.iload_n 2, 1) := by decide +kernel
theorem dL_move_5 : decode cL_move 5 = .ok (.invokevirtual 25, 3) := by decide +kernel
theorem dL_move_8 : decode cL_move 8 = .ok (.i2l, 1) := by decide +kernel
theorem dL_move_9 : decode cL_move 9 = .ok (.lastore, 1) := by decide +kernel
theorem dL_move_10 : decode cL_move 10 = .ok (.goto 11, 3) := by decide +kernel
theorem dL_move_13 : decode cL_move 13 = .ok (.astore 4, 2) := by decide +kernel
theorem dL_move_15 : decode cL_move 15 = .ok (.iconst 1, 1) := by decide +kernel
theorem dL_move_16 : decode cL_move 16 = .ok (.ireturn, 1) := by decide +kernel
theorem dL_move_17 : decode cL_move 17 = .ok (.astore 4, 2) := by decide +kernel
theorem dL_move_19 : decode cL_move 19 = .ok (.iconst 2, 1) := by decide +kernel
theorem dL_move_20 : decode cL_move 20 = .ok (.ireturn, 1) := by decide +kernel
theorem dL_move_21 : decode cL_move 21 = .ok (.iconst 0, 1) := by decide +kernel
theorem dL_move_22 : decode cL_move 22 = .ok (.ireturn, 1) := by decide +kernel
set_option maxRecDepth 20000 in
theorem ggL_stretch_X3_stretch : GoodIn wsL_stretch wsX3_stretch := goodIn_ca (goodIn_ca (goodIn_r _ [7, 8, 9, 10, 11, 12, 13, 6, 14, 15, 16, 17, 18, 19, 20, 21, 22, 23, 24, 25, 26, 27, 28, 29, 30, 31, 32, 33, 34, 35, 36, 37, 38, 39, 40, 41, 42, 43, 44, 45, 46, 47, 48, 49, 50, 51, 52, 53, 54, 55, 56, 57, 58, 59, 60, 61, 62] (by decide +kernel) (by decide +kernel)) (goodIn_sub (fun _ h => List.mem_cons_of_mem _ (List.mem_append_left _ (List.mem_append_right _ h))) (by decide +kernel))) (goodIn_sub (fun _ h => List.mem_cons_of_mem _ (List.mem_append_right _ h)) (by decide +kernel))
set_option maxRecDepth 20000 in
theorem gL_stretch_X3_stretch : GoodIn wsL_stretch (wsV RL 28 RX3 yX3_stretch wsX3_stretch) := goodIn_app (goodIn_of _ (by decide +kernel)) ggL_stretch_X3_stretch
theorem dL_stretch_0 : decode cL_stretch 0 = .ok (.aload_n 3, 1) := by decide +kernel
theorem dL_stretch_1 : decode cL_stretch 1 = .ok (.iconst 0, 1) := by decide +kernel
theorem dL_stretch_2 : decode cL_stretch 2 = .ok (.aload_n 0, 1) := by decide +kernel
theorem dL_stretch_3 : decode cL_stretch 3 = .ok (.iload_n 1, 1) := by decide +kernel
theorem dL_stretch_4 : decode cL_stretch 4 = .ok (.iload_n 2, 1) := by decide +kernel
theorem dL_stretch_5 : decode cL_stretch 5 = .ok (.invokevirtual 28, 3) := by decide +kernel
theorem dL_stretch_8 : decode cL_stretch 8 = .ok (.i2l, 1) := by decide +kernel
theorem dL_stretch_9 : decode cL_stretch 9 = .ok (.lastore, 1) := by decide +kernel
theorem dL_stretch_10 : decode cL_stretch 10 = .ok (.goto 11, 3) := by decide +kernel
theorem dL_stretch_13 : decode cL_stretch 13 = .ok (.astore 4, 2) := by decide +kernel
theorem dL_stretch_15 : decode cL_stretch 15 = .ok (.iconst 1, 1) := by decide +kernel
theorem dL_stretch_16 : decode cL_stretch 16 = .ok (.ireturn, 1) := by decide +kernel
theorem dL_stretch_17 : decode cL_stretch 17 = .ok (.astore 4, 2) := by decide +kernel
theorem dL_stretch_19 : decode cL_stretch 19 = .ok (.iconst 2, 1) := by decide +kernel
theorem dL_stretch_20 : decode cL_stretch 20 = .ok (.ireturn, 1) := by decide +kernel
theorem dL_stretch_21 : decode cL_stretch 21 = .ok (.iconst 0, 1) := by decide +kernel
theorem dL_stretch_22 : decode cL_stretch 22 = .ok (.ireturn, 1) := by decide +kernel
set_option maxRecDepth 20000 in
theorem ggL_ofSet_X3_ofSet : GoodIn wsL_ofSet wsX3_ofSet := goodIn_ca (goodIn_ca (goodIn_r _ [7, 8, 9, 10, 6, 11, 12, 13, 14, 15, 16, 17, 18, 19, 20, 21, 22, 23, 24, 25, 26, 27, 28, 29, 30, 31, 32, 33, 34, 35, 36, 37, 38, 39, 40, 41, 42, 43, 44, 45, 46, 47, 48, 49, 50, 51, 52, 53, 54, 55, 56, 57, 58, 59, 60, 61, 62, 63, 64, 65, 66, 67, 68, 69, 70, 71, 72, 73, 74, 75, 76, 77, 78, 79, 80, 81, 82, 83, 84, 85, 86, 87, 88, 89, 90, 91, 92, 93, 94, 95, 96, 97, 98, 99, 100] (by decide +kernel) (by decide +kernel)) (goodIn_sub (fun _ h => List.mem_cons_of_mem _ (List.mem_append_left _ (List.mem_append_right _ h))) (by decide +kernel))) (goodIn_sub (fun _ h => List.mem_cons_of_mem _ (List.mem_append_right _ h)) (by decide +kernel))
set_option maxRecDepth 20000 in
theorem gL_ofSet_X3_ofSet : GoodIn wsL_ofSet (wsV RL 31 RX3 yX3_ofSet wsX3_ofSet) := goodIn_app (goodIn_of _ (by decide +kernel)) ggL_ofSet_X3_ofSet
theorem dL_ofSet_0 : decode cL_ofSet 0 = .ok (.aload_n 3, 1) := by decide +kernel
theorem dL_ofSet_1 : decode cL_ofSet 1 = .ok (.iconst 0, 1) := by decide +kernel
theorem dL_ofSet_2 : decode cL_ofSet 2 = .ok (.aload_n 0, 1) := by decide +kernel
theorem dL_ofSet_3 : decode cL_ofSet 3 = .ok (.iload_n 1, 1) := by decide +kernel
theorem dL_ofSet_4 : decode cL_ofSet 4 = .ok (.iload_n 2, 1) := by decide +kernel
theorem dL_ofSet_5 : decode cL_ofSet 5 = .ok (.invokevirtual 31, 3) := by decide +kernel
theorem dL_ofSet_8 : decode cL_ofSet 8 = .ok (.i2l, 1) := by decide +kernel
theorem dL_ofSet_9 : decode cL_ofSet 9 = .ok (.lastore, 1) := by decide +kernel
theorem dL_ofSet_10 : decode cL_ofSet 10 = .ok (.goto 11, 3) := by decide +kernel
theorem dL_ofSet_13 : decode cL_ofSet 13 = .ok (.astore 4, 2) := by decide +kernel
theorem dL_ofSet_15 : decode cL_ofSet 15 = .ok (.iconst 1, 1) := by decide +kernel
theorem dL_ofSet_16 : decode cL_ofSet 16 = .ok (.ireturn, 1) := by decide +kernel
theorem dL_ofSet_17 : decode cL_ofSet 17 = .ok (.astore 4, 2) := by decide +kernel
theorem dL_ofSet_19 : decode cL_ofSet 19 = .ok (.iconst 2, 1) := by decide +kernel
theorem dL_ofSet_20 : decode cL_ofSet 20 = .ok (.ireturn, 1) := by decide +kernel
theorem dL_ofSet_21 : decode cL_ofSet 21 = .ok (.iconst 0, 1) := by decide +kernel
theorem dL_ofSet_22 : decode cL_ofSet 22 = .ok (.ireturn, 1) := by decide +kernel
set_option maxRecDepth 20000 in
theorem ggL_ofSpan_X3_ofSpan : GoodIn wsL_ofSpan wsX3_ofSpan := goodIn_ca (goodIn_ca (goodIn_r _ [7, 8, 9, 10, 11, 12, 13, 6, 14, 15, 16, 17, 18, 19, 20, 21, 22, 23, 24, 25, 26, 27, 28, 29, 30, 31, 32, 33, 34, 35, 36, 37, 38, 39, 40, 41, 42, 43, 44, 45, 46, 47, 48, 49, 50, 51, 52, 53, 54, 55, 56, 57, 58, 59, 60, 61, 62, 63, 64, 65, 66, 67, 68, 69, 70, 71, 72, 73, 74] (by decide +kernel) (by decide +kernel)) (goodIn_sub (fun _ h => List.mem_cons_of_mem _ (List.mem_append_left _ (List.mem_append_right _ h))) (by decide +kernel))) (goodIn_sub (fun _ h => List.mem_cons_of_mem _ (List.mem_append_right _ h)) (by decide +kernel))
set_option maxRecDepth 20000 in
theorem gL_ofSpan_X3_ofSpan : GoodIn wsL_ofSpan (wsV RL 34 RX3 yX3_ofSpan wsX3_ofSpan) := goodIn_app (goodIn_of _ (by decide +kernel)) ggL_ofSpan_X3_ofSpan
theorem dL_ofSpan_0 : decode cL_ofSpan 0 = .ok (.aload 4, 2) := by decide +kernel
theorem dL_ofSpan_2 : decode cL_ofSpan 2 = .ok (.iconst 0, 1) := by decide +kernel
theorem dL_ofSpan_3 : decode cL_ofSpan 3 = .ok (.aload_n 0, 1) := by decide +kernel
theorem dL_ofSpan_4 : decode cL_ofSpan 4 = .ok (.iload_n 1, 1) := by decide +kernel
theorem dL_ofSpan_5 : decode cL_ofSpan 5 = .ok (.iload_n 2, 1) := by decide +kernel
theorem dL_ofSpan_6 : decode cL_ofSpan 6 = .ok (.iload_n 3, 1) := by decide +kernel
theorem dL_ofSpan_7 : decode cL_ofSpan 7 = .ok (.invokevirtual 34, 3) := by decide +kernel
theorem dL_ofSpan_10 : decode cL_ofSpan 10 = .ok (.i2l, 1) := by decide +kernel
theorem dL_ofSpan_11 : decode cL_ofSpan 11 = .ok (.lastore, 1) := by decide +kernel
theorem dL_ofSpan_12 : decode cL_ofSpan 12 = .ok (.goto 11, 3) := by decide +kernel
theorem dL_ofSpan_15 : decode cL_ofSpan 15 = .ok (.astore 5, 2) := by decide +kernel
theorem dL_ofSpan_17 : decode cL_ofSpan 17 = .ok (.iconst 1, 1) := by decide +kernel
theorem dL_ofSpan_18 : decode cL_ofSpan 18 = .ok (.ireturn, 1) := by decide +kernel
theorem dL_ofSpan_19 : decode cL_ofSpan 19 = .ok (.astore 5, 2) := by decide +kernel
theorem dL_ofSpan_21 : decode cL_ofSpan 21 = .ok (.iconst 2, 1) := by decide +kernel
theorem dL_ofSpan_22 : decode cL_ofSpan 22 = .ok (.ireturn, 1) := by decide +kernel
theorem dL_ofSpan_23 : decode cL_ofSpan 23 = .ok (.iconst 0, 1) := by decide +kernel
theorem dL_ofSpan_24 : decode cL_ofSpan 24 = .ok (.ireturn, 1) := by decide +kernel
set_option maxRecDepth 20000 in
theorem ggL_has_X3_has : GoodIn wsL_has wsX3_has := goodIn_ca (goodIn_r _ [6, 7, 8, 9, 5, 10, 11, 12, 13, 14, 15, 16, 17, 18, 19, 20, 21, 22, 23, 24, 25, 26, 27, 28, 29, 30, 31, 32, 33] (by decide +kernel) (by decide +kernel)) (goodIn_sub (fun _ h => List.mem_cons_of_mem _ (List.mem_append_right _ h)) (by decide +kernel))
set_option maxRecDepth 20000 in
theorem gL_has_X3_has : GoodIn wsL_has (wsV RL 38 RX3 yX3_has wsX3_has) := goodIn_app (goodIn_of _ (by decide +kernel)) ggL_has_X3_has
theorem dL_has_0 : decode cL_has 0 = .ok (.aload_n 3, 1) := by decide +kernel
theorem dL_has_1 : decode cL_has 1 = .ok (.iconst 0, 1) := by decide +kernel
theorem dL_has_2 : decode cL_has 2 = .ok (.aload_n 0, 1) := by decide +kernel
theorem dL_has_3 : decode cL_has 3 = .ok (.iload_n 1, 1) := by decide +kernel
theorem dL_has_4 : decode cL_has 4 = .ok (.iload_n 2, 1) := by decide +kernel
theorem dL_has_5 : decode cL_has 5 = .ok (.invokevirtual 38, 3) := by decide +kernel
theorem dL_has_8 : decode cL_has 8 = .ok (.ifCond .eq 7, 3) := by decide +kernel
theorem dL_has_11 : decode cL_has 11 = .ok (.lconst 1, 1) := by decide +kernel
theorem dL_has_12 : decode cL_has 12 = .ok (.goto 4, 3) := by decide +kernel
theorem dL_has_15 : decode cL_has 15 = .ok (.lconst 0, 1) := by decide +kernel
theorem dL_has_16 : decode cL_has 16 = .ok (.lastore, 1) := by decide +kernel
theorem dL_has_17 : decode cL_has 17 = .ok (.goto 7, 3) := by decide +kernel
theorem dL_has_20 : decode cL_has 20 = .ok (.astore 4, 2) := by decide +kernel
theorem dL_has_22 : decode cL_has 22 = .ok (.iconst 1, 1) := by decide +kernel
theorem dL_has_23 : decode cL_has 23 = .ok (.ireturn, 1) := by decide +kernel
theorem dL_has_24 : decode cL_has 24 = .ok (.iconst 0, 1) := by decide +kernel
theorem dL_has_25 : decode cL_has 25 = .ok (.ireturn, 1) := by decide +kernel
set_option maxRecDepth 20000 in
theorem ggL_far_X3_far : GoodIn wsL_far wsX3_far := goodIn_ca (goodIn_r _ [6, 7, 8, 9, 5, 10, 11, 12, 13, 14, 15, 16, 17, 18, 19, 20, 21, 22, 23, 24, 25, 26, 27, 28, 29, 30, 31, 32, 33] (by decide +kernel) (by decide +kernel)) (goodIn_sub (fun _ h => List.mem_cons_of_mem _ (List.mem_append_right _ h)) (by decide +kernel))
set_option maxRecDepth 20000 in
theorem gL_far_X3_far : GoodIn wsL_far (wsV RL 42 RX3 yX3_far wsX3_far) := goodIn_app (goodIn_of _ (by decide +kernel)) ggL_far_X3_far
theorem dL_far_0 : decode cL_far 0 = .ok (.aload_n 3, 1) := by decide +kernel
theorem dL_far_1 : decode cL_far 1 = .ok (.iconst 0, 1) := by decide +kernel
theorem dL_far_2 : decode cL_far 2 = .ok (.aload_n 0, 1) := by decide +kernel
theorem dL_far_3 : decode cL_far 3 = .ok (.iload_n 1, 1) := by decide +kernel
theorem dL_far_4 : decode cL_far 4 = .ok (.iload_n 2, 1) := by decide +kernel
theorem dL_far_5 : decode cL_far 5 = .ok (.invokevirtual 42, 3) := by decide +kernel
theorem dL_far_8 : decode cL_far 8 = .ok (.i2l, 1) := by decide +kernel
theorem dL_far_9 : decode cL_far 9 = .ok (.lastore, 1) := by decide +kernel
theorem dL_far_10 : decode cL_far 10 = .ok (.goto 7, 3) := by decide +kernel
theorem dL_far_13 : decode cL_far 13 = .ok (.astore 4, 2) := by decide +kernel
theorem dL_far_15 : decode cL_far 15 = .ok (.iconst 1, 1) := by decide +kernel
theorem dL_far_16 : decode cL_far 16 = .ok (.ireturn, 1) := by decide +kernel
theorem dL_far_17 : decode cL_far 17 = .ok (.iconst 0, 1) := by decide +kernel
theorem dL_far_18 : decode cL_far 18 = .ok (.ireturn, 1) := by decide +kernel
set_option maxRecDepth 20000 in
theorem ggL_beside_X3_beside : GoodIn wsL_beside wsX3_beside := goodIn_ca (goodIn_r _ [6, 7, 8, 9, 5, 10, 11, 12, 13, 14, 15, 16, 17, 18, 19, 20, 21, 22, 23, 24, 25, 26, 27, 28, 29, 30, 31, 32, 33, 34, 35, 36, 37, 38] (by decide +kernel) (by decide +kernel)) (goodIn_sub (fun _ h => List.mem_cons_of_mem _ (List.mem_append_right _ h)) (by decide +kernel))
set_option maxRecDepth 20000 in
theorem gL_beside_X3_beside : GoodIn wsL_beside (wsV RL 45 RX3 yX3_beside wsX3_beside) := goodIn_app (goodIn_of _ (by decide +kernel)) ggL_beside_X3_beside
theorem dL_beside_0 : decode cL_beside 0 = .ok (.aload_n 3, 1) := by decide +kernel
theorem dL_beside_1 : decode cL_beside 1 = .ok (.iconst 0, 1) := by decide +kernel
theorem dL_beside_2 : decode cL_beside 2 = .ok (.aload_n 0, 1) := by decide +kernel
theorem dL_beside_3 : decode cL_beside 3 = .ok (.iload_n 1, 1) := by decide +kernel
theorem dL_beside_4 : decode cL_beside 4 = .ok (.iload_n 2, 1) := by decide +kernel
theorem dL_beside_5 : decode cL_beside 5 = .ok (.invokevirtual 45, 3) := by decide +kernel
theorem dL_beside_8 : decode cL_beside 8 = .ok (.i2l, 1) := by decide +kernel
theorem dL_beside_9 : decode cL_beside 9 = .ok (.lastore, 1) := by decide +kernel
theorem dL_beside_10 : decode cL_beside 10 = .ok (.goto 7, 3) := by decide +kernel
theorem dL_beside_13 : decode cL_beside 13 = .ok (.astore 4, 2) := by decide +kernel
theorem dL_beside_15 : decode cL_beside 15 = .ok (.iconst 1, 1) := by decide +kernel
theorem dL_beside_16 : decode cL_beside 16 = .ok (.ireturn, 1) := by decide +kernel
theorem dL_beside_17 : decode cL_beside 17 = .ok (.iconst 0, 1) := by decide +kernel
theorem dL_beside_18 : decode cL_beside 18 = .ok (.ireturn, 1) := by decide +kernel
set_option maxRecDepth 20000 in
theorem ggL_raise_X3_raise : GoodIn wsL_raise wsX3_raise := goodIn_ca (goodIn_ca (goodIn_r _ [7, 8, 9, 10, 11, 12, 6, 13, 14, 15, 16, 17, 18, 19, 20, 21, 22, 23, 24, 25, 26, 27, 28, 29, 30, 31, 32, 33, 34, 35, 36, 37, 38, 39, 40, 41, 42, 43, 44, 45, 46, 47, 48, 49, 50, 51, 52, 53, 54, 55, 56, 57] (by decide +kernel) (by decide +kernel)) (goodIn_sub (fun _ h => List.mem_cons_of_mem _ (List.mem_append_left _ (List.mem_append_right _ h))) (by decide +kernel))) (goodIn_sub (fun _ h => List.mem_cons_of_mem _ (List.mem_append_right _ h)) (by decide +kernel))
set_option maxRecDepth 20000 in
theorem gL_raise_X3_raise : GoodIn wsL_raise (wsV RL 48 RX3 yX3_raise wsX3_raise) := goodIn_app (goodIn_of _ (by decide +kernel)) ggL_raise_X3_raise
theorem dL_raise_0 : decode cL_raise 0 = .ok (.aload 6, 2) := by decide +kernel
theorem dL_raise_2 : decode cL_raise 2 = .ok (.iconst 0, 1) := by decide +kernel
theorem dL_raise_3 : decode cL_raise 3 = .ok (.aload_n 0, 1) := by decide +kernel
theorem dL_raise_4 : decode cL_raise 4 = .ok (.iload_n 1, 1) := by decide +kernel
theorem dL_raise_5 : decode cL_raise 5 = .ok (.iload_n 2, 1) := by decide +kernel
theorem dL_raise_6 : decode cL_raise 6 = .ok (.iload_n 3, 1) := by decide +kernel
theorem dL_raise_7 : decode cL_raise 7 = .ok (.iload 4, 2) := by decide +kernel
theorem dL_raise_9 : decode cL_raise 9 = .ok (.iload 5, 2) := by decide +kernel
theorem dL_raise_11 : decode cL_raise 11 = .ok (.invokevirtual 48, 3) := by decide +kernel
theorem dL_raise_14 : decode cL_raise 14 = .ok (.i2l, 1) := by decide +kernel
theorem dL_raise_15 : decode cL_raise 15 = .ok (.lastore, 1) := by decide +kernel
theorem dL_raise_16 : decode cL_raise 16 = .ok (.goto 11, 3) := by decide +kernel
theorem dL_raise_19 : decode cL_raise 19 = .ok (.astore 7, 2) := by decide +kernel
theorem dL_raise_21 : decode cL_raise 21 = .ok (.iconst 1, 1) := by decide +kernel
theorem dL_raise_22 : decode cL_raise 22 = .ok (.ireturn, 1) := by decide +kernel
theorem dL_raise_23 : decode cL_raise 23 = .ok (.astore 7, 2) := by decide +kernel
theorem dL_raise_25 : decode cL_raise 25 = .ok (.iconst 2, 1) := by decide +kernel
theorem dL_raise_26 : decode cL_raise 26 = .ok (.ireturn, 1) := by decide +kernel
theorem dL_raise_27 : decode cL_raise 27 = .ok (.iconst 0, 1) := by decide +kernel
theorem dL_raise_28 : decode cL_raise 28 = .ok (.ireturn, 1) := by decide +kernel
set_option maxRecDepth 20000 in
theorem ggL_set_X3_set : GoodIn wsL_set wsX3_set := goodIn_ca (goodIn_ca (goodIn_r _ [7, 8, 9, 10, 11, 12, 6, 13, 14, 15, 16, 17, 18, 19, 20, 21, 22, 23, 24, 25, 26, 27, 28, 29, 30, 31, 32, 33, 34, 35, 36, 37, 38, 39, 40, 41, 42, 43, 44, 45, 46, 47, 48, 49, 50, 51, 52, 53, 54, 55, 56, 57, 58, 59, 60] (by decide +kernel) (by decide +kernel)) (goodIn_sub (fun _ h => List.mem_cons_of_mem _ (List.mem_append_left _ (List.mem_append_right _ h))) (by decide +kernel))) (goodIn_sub (fun _ h => List.mem_cons_of_mem _ (List.mem_append_right _ h)) (by decide +kernel))
set_option maxRecDepth 20000 in
theorem gL_set_X3_set : GoodIn wsL_set (wsV RL 52 RX3 yX3_set wsX3_set) := goodIn_app (goodIn_of _ (by decide +kernel)) ggL_set_X3_set
theorem dL_set_0 : decode cL_set 0 = .ok (.aload 4, 2) := by decide +kernel
theorem dL_set_2 : decode cL_set 2 = .ok (.iconst 0, 1) := by decide +kernel
theorem dL_set_3 : decode cL_set 3 = .ok (.aload_n 0, 1) := by decide +kernel
theorem dL_set_4 : decode cL_set 4 = .ok (.iload_n 1, 1) := by decide +kernel
theorem dL_set_5 : decode cL_set 5 = .ok (.iload_n 2, 1) := by decide +kernel
theorem dL_set_6 : decode cL_set 6 = .ok (.iload_n 3, 1) := by decide +kernel
theorem dL_set_7 : decode cL_set 7 = .ok (.invokevirtual 52, 3) := by decide +kernel
theorem dL_set_10 : decode cL_set 10 = .ok (.i2l, 1) := by decide +kernel
theorem dL_set_11 : decode cL_set 11 = .ok (.lastore, 1) := by decide +kernel
theorem dL_set_12 : decode cL_set 12 = .ok (.goto 11, 3) := by decide +kernel
theorem dL_set_15 : decode cL_set 15 = .ok (.astore 5, 2) := by decide +kernel
theorem dL_set_17 : decode cL_set 17 = .ok (.iconst 1, 1) := by decide +kernel
theorem dL_set_18 : decode cL_set 18 = .ok (.ireturn, 1) := by decide +kernel
theorem dL_set_19 : decode cL_set 19 = .ok (.astore 5, 2) := by decide +kernel
theorem dL_set_21 : decode cL_set 21 = .ok (.iconst 2, 1) := by decide +kernel
theorem dL_set_22 : decode cL_set 22 = .ok (.ireturn, 1) := by decide +kernel
theorem dL_set_23 : decode cL_set 23 = .ok (.iconst 0, 1) := by decide +kernel
theorem dL_set_24 : decode cL_set 24 = .ok (.ireturn, 1) := by decide +kernel
set_option maxRecDepth 20000 in
theorem ggL_mix_X3_mix : GoodIn wsL_mix wsX3_mix := goodIn_ca (goodIn_ca (goodIn_r _ [7, 8, 9, 10, 6, 11, 12, 13, 14, 15, 16, 17, 18, 19, 20, 21, 22, 23, 24, 25, 26, 27, 28, 29, 30, 31, 32, 33, 34, 35, 36, 37, 38, 39, 40, 41, 42, 43, 44, 45, 46, 47, 48, 49, 50, 51, 52, 53] (by decide +kernel) (by decide +kernel)) (goodIn_sub (fun _ h => List.mem_cons_of_mem _ (List.mem_append_left _ (List.mem_append_right _ h))) (by decide +kernel))) (goodIn_sub (fun _ h => List.mem_cons_of_mem _ (List.mem_append_right _ h)) (by decide +kernel))
set_option maxRecDepth 20000 in
theorem gL_mix_X3_mix : GoodIn wsL_mix (wsV RL 55 RX3 yX3_mix wsX3_mix) := goodIn_app (goodIn_of _ (by decide +kernel)) ggL_mix_X3_mix
theorem dL_mix_0 : decode cL_mix 0 = .ok (.aload 5, 2) := by decide +kernel
theorem dL_mix_2 : decode cL_mix 2 = .ok (.iconst 0, 1) := by decide +kernel
theorem dL_mix_3 : decode cL_mix 3 = .ok (.aload_n 0, 1) := by decide +kernel
theorem dL_mix_4 : decode cL_mix 4 = .ok (.iload_n 1, 1) := by decide +kernel
theorem dL_mix_5 : decode cL_mix 5 = .ok (.iload_n 2, 1) := by decide +kernel
theorem dL_mix_6 : decode cL_mix 6 = .ok (.iload_n 3, 1) := by decide +kernel
theorem dL_mix_7 : decode cL_mix 7 = .ok (.iload 4, 2) := by decide +kernel
theorem dL_mix_9 : decode cL_mix 9 = .ok (.invokevirtual 55, 3) := by decide +kernel
theorem dL_mix_12 : decode cL_mix 12 = .ok (.i2l, 1) := by decide +kernel
theorem dL_mix_13 : decode cL_mix 13 = .ok (.lastore, 1) := by decide +kernel
theorem dL_mix_14 : decode cL_mix 14 = .ok (.goto 11, 3) := by decide +kernel
theorem dL_mix_17 : decode cL_mix 17 = .ok (.astore 6, 2) := by decide +kernel
theorem dL_mix_19 : decode cL_mix 19 = .ok (.iconst 1, 1) := by decide +kernel
theorem dL_mix_20 : decode cL_mix 20 = .ok (.ireturn, 1) := by decide +kernel
theorem dL_mix_21 : decode cL_mix 21 = .ok (.astore 6, 2) := by decide +kernel
theorem dL_mix_23 : decode cL_mix 23 = .ok (.iconst 2, 1) := by decide +kernel
theorem dL_mix_24 : decode cL_mix 24 = .ok (.ireturn, 1) := by decide +kernel
theorem dL_mix_25 : decode cL_mix 25 = .ok (.iconst 0, 1) := by decide +kernel
theorem dL_mix_26 : decode cL_mix 26 = .ok (.ireturn, 1) := by decide +kernel
set_option maxRecDepth 20000 in
theorem ggL_turn_X3_turn : GoodIn wsL_turn wsX3_turn := goodIn_ca (goodIn_ca (goodIn_r _ [7, 8, 9, 10, 11, 12, 6, 13, 14, 15, 16, 17, 18, 19, 20, 21, 22, 23, 24, 25, 26, 27, 28, 29, 30, 31, 32, 33, 34, 35, 36, 37, 38, 39, 40, 41, 42, 43, 44, 45, 46, 47, 48, 49, 50, 51, 52, 53, 54, 55, 56, 57, 58, 59, 60, 61, 62, 63, 64, 65, 66, 67, 68, 69, 70, 71, 72, 73, 74, 75, 76, 77, 78, 79, 80, 81, 82, 83, 84, 85, 86, 87, 88, 89, 90, 91, 92, 93, 94] (by decide +kernel) (by decide +kernel)) (goodIn_sub (fun _ h => List.mem_cons_of_mem _ (List.mem_append_left _ (List.mem_append_right _ h))) (by decide +kernel))) (goodIn_sub (fun _ h => List.mem_cons_of_mem _ (List.mem_append_right _ h)) (by decide +kernel))
set_option maxRecDepth 20000 in
theorem gL_turn_X3_turn : GoodIn wsL_turn (wsV RL 58 RX3 yX3_turn wsX3_turn) := goodIn_app (goodIn_of _ (by decide +kernel)) ggL_turn_X3_turn
theorem dL_turn_0 : decode cL_turn 0 = .ok (.aload 4, 2) := by decide +kernel
theorem dL_turn_2 : decode cL_turn 2 = .ok (.iconst 0, 1) := by decide +kernel
theorem dL_turn_3 : decode cL_turn 3 = .ok (.aload_n 0, 1) := by decide +kernel
theorem dL_turn_4 : decode cL_turn 4 = .ok (.iload_n 1, 1) := by decide +kernel
theorem dL_turn_5 : decode cL_turn 5 = .ok (.iload_n 2, 1) := by decide +kernel
theorem dL_turn_6 : decode cL_turn 6 = .ok (.iload_n 3, 1) := by decide +kernel
theorem dL_turn_7 : decode cL_turn 7 = .ok (.invokevirtual 58, 3) := by decide +kernel
theorem dL_turn_10 : decode cL_turn 10 = .ok (.i2l, 1) := by decide +kernel
theorem dL_turn_11 : decode cL_turn 11 = .ok (.lastore, 1) := by decide +kernel
theorem dL_turn_12 : decode cL_turn 12 = .ok (.goto 11, 3) := by decide +kernel
theorem dL_turn_15 : decode cL_turn 15 = .ok (.astore 5, 2) := by decide +kernel
theorem dL_turn_17 : decode cL_turn 17 = .ok (.iconst 1, 1) := by decide +kernel
theorem dL_turn_18 : decode cL_turn 18 = .ok (.ireturn, 1) := by decide +kernel
theorem dL_turn_19 : decode cL_turn 19 = .ok (.astore 5, 2) := by decide +kernel
theorem dL_turn_21 : decode cL_turn 21 = .ok (.iconst 2, 1) := by decide +kernel
theorem dL_turn_22 : decode cL_turn 22 = .ok (.ireturn, 1) := by decide +kernel
theorem dL_turn_23 : decode cL_turn 23 = .ok (.iconst 0, 1) := by decide +kernel
theorem dL_turn_24 : decode cL_turn 24 = .ok (.ireturn, 1) := by decide +kernel
set_option maxRecDepth 20000 in
theorem ggL_thick_X3_thick : GoodIn wsL_thick wsX3_thick := goodIn_ca (goodIn_ca (goodIn_r _ [7, 8, 9, 10, 6, 11, 12, 13, 14, 15, 16, 17, 18, 19, 20, 21, 22, 23, 24, 25, 26, 27, 28, 29, 30, 31, 32, 33, 34, 35, 36, 37, 38, 39, 40, 41, 42, 43, 44, 45, 46, 47, 48, 49, 50, 51, 52, 53, 54, 55, 56, 57, 58, 59, 60, 61, 62, 63, 64, 65, 66, 67] (by decide +kernel) (by decide +kernel)) (goodIn_sub (fun _ h => List.mem_cons_of_mem _ (List.mem_append_left _ (List.mem_append_right _ h))) (by decide +kernel))) (goodIn_sub (fun _ h => List.mem_cons_of_mem _ (List.mem_append_right _ h)) (by decide +kernel))
set_option maxRecDepth 20000 in
theorem gL_thick_X3_thick : GoodIn wsL_thick (wsV RL 61 RX3 yX3_thick wsX3_thick) := goodIn_app (goodIn_of _ (by decide +kernel)) ggL_thick_X3_thick
theorem dL_thick_0 : decode cL_thick 0 = .ok (.aload_n 3, 1) := by decide +kernel
theorem dL_thick_1 : decode cL_thick 1 = .ok (.iconst 0, 1) := by decide +kernel
theorem dL_thick_2 : decode cL_thick 2 = .ok (.aload_n 0, 1) := by decide +kernel
theorem dL_thick_3 : decode cL_thick 3 = .ok (.iload_n 1, 1) := by decide +kernel
theorem dL_thick_4 : decode cL_thick 4 = .ok (.iload_n 2, 1) := by decide +kernel
theorem dL_thick_5 : decode cL_thick 5 = .ok (.invokevirtual 61, 3) := by decide +kernel
theorem dL_thick_8 : decode cL_thick 8 = .ok (.i2l, 1) := by decide +kernel
theorem dL_thick_9 : decode cL_thick 9 = .ok (.lastore, 1) := by decide +kernel
theorem dL_thick_10 : decode cL_thick 10 = .ok (.goto 11, 3) := by decide +kernel
theorem dL_thick_13 : decode cL_thick 13 = .ok (.astore 4, 2) := by decide +kernel
theorem dL_thick_15 : decode cL_thick 15 = .ok (.iconst 1, 1) := by decide +kernel
theorem dL_thick_16 : decode cL_thick 16 = .ok (.ireturn, 1) := by decide +kernel
theorem dL_thick_17 : decode cL_thick 17 = .ok (.astore 4, 2) := by decide +kernel
theorem dL_thick_19 : decode cL_thick 19 = .ok (.iconst 2, 1) := by decide +kernel
theorem dL_thick_20 : decode cL_thick 20 = .ok (.ireturn, 1) := by decide +kernel
theorem dL_thick_21 : decode cL_thick 21 = .ok (.iconst 0, 1) := by decide +kernel
theorem dL_thick_22 : decode cL_thick 22 = .ok (.ireturn, 1) := by decide +kernel
set_option maxRecDepth 20000 in
theorem ggL_where_X3_where : GoodIn wsL_where wsX3_where := goodIn_ca (goodIn_r _ [6, 7, 8, 9, 5, 10, 11, 12, 13, 14, 15, 16, 17, 18, 19, 20, 21, 22, 23, 24, 25, 26, 27, 28, 29, 30, 31, 32, 33, 34, 35, 36, 37, 38, 39, 40, 41, 42, 43, 44, 45, 46, 47, 48, 49, 50] (by decide +kernel) (by decide +kernel)) (goodIn_sub (fun _ h => List.mem_cons_of_mem _ (List.mem_append_right _ h)) (by decide +kernel))
set_option maxRecDepth 20000 in
theorem gL_where_X3_where : GoodIn wsL_where (wsV RL 64 RX3 yX3_where wsX3_where) := goodIn_app (goodIn_of _ (by decide +kernel)) ggL_where_X3_where
theorem dL_where_0 : decode cL_where 0 = .ok (.aload 5, 2) := by decide +kernel
theorem dL_where_2 : decode cL_where 2 = .ok (.iconst 0, 1) := by decide +kernel
theorem dL_where_3 : decode cL_where 3 = .ok (.aload_n 0, 1) := by decide +kernel
theorem dL_where_4 : decode cL_where 4 = .ok (.iload_n 1, 1) := by decide +kernel
theorem dL_where_5 : decode cL_where 5 = .ok (.iload_n 2, 1) := by decide +kernel
theorem dL_where_6 : decode cL_where 6 = .ok (.iload_n 3, 1) := by decide +kernel
theorem dL_where_7 : decode cL_where 7 = .ok (.iload 4, 2) := by decide +kernel
theorem dL_where_9 : decode cL_where 9 = .ok (.invokevirtual 64, 3) := by decide +kernel
theorem dL_where_12 : decode cL_where 12 = .ok (.i2l, 1) := by decide +kernel
theorem dL_where_13 : decode cL_where 13 = .ok (.lastore, 1) := by decide +kernel
theorem dL_where_14 : decode cL_where 14 = .ok (.goto 7, 3) := by decide +kernel
theorem dL_where_17 : decode cL_where 17 = .ok (.astore 6, 2) := by decide +kernel
theorem dL_where_19 : decode cL_where 19 = .ok (.iconst 1, 1) := by decide +kernel
theorem dL_where_20 : decode cL_where 20 = .ok (.ireturn, 1) := by decide +kernel
theorem dL_where_21 : decode cL_where 21 = .ok (.iconst 0, 1) := by decide +kernel
theorem dL_where_22 : decode cL_where 22 = .ok (.ireturn, 1) := by decide +kernel
set_option maxRecDepth 20000 in
theorem ggL_ofFunction_X3_ofFunction : GoodIn wsL_ofFunction wsX3_ofFunction := goodIn_ca (goodIn_ca (goodIn_r _ [7, 8, 9, 10, 6, 11, 12, 13, 14, 15, 16, 17, 18, 19, 20, 21, 22, 23, 24, 25, 26, 27, 28, 29, 30, 31, 32, 33, 34, 35, 36, 37, 38, 39, 40, 41, 42, 43, 44, 45, 46, 47, 48, 49, 50, 51, 52, 53, 54, 55, 56, 57, 58, 59, 60, 61, 62] (by decide +kernel) (by decide +kernel)) (goodIn_sub (fun _ h => List.mem_cons_of_mem _ (List.mem_append_left _ (List.mem_append_right _ h))) (by decide +kernel))) (goodIn_sub (fun _ h => List.mem_cons_of_mem _ (List.mem_append_right _ h)) (by decide +kernel))
set_option maxRecDepth 20000 in
theorem gL_ofFunction_X3_ofFunction : GoodIn wsL_ofFunction (wsV RL 67 RX3 yX3_ofFunction wsX3_ofFunction) := goodIn_app (goodIn_of _ (by decide +kernel)) ggL_ofFunction_X3_ofFunction
theorem dL_ofFunction_0 : decode cL_ofFunction 0 = .ok (.aload_n 3, 1) := by decide +kernel
theorem dL_ofFunction_1 : decode cL_ofFunction 1 = .ok (.iconst 0, 1) := by decide +kernel
theorem dL_ofFunction_2 : decode cL_ofFunction 2 = .ok (.aload_n 0, 1) := by decide +kernel
theorem dL_ofFunction_3 : decode cL_ofFunction 3 = .ok (.iload_n 1, 1) := by decide +kernel
theorem dL_ofFunction_4 : decode cL_ofFunction 4 = .ok (.iload_n 2, 1) := by decide +kernel
theorem dL_ofFunction_5 : decode cL_ofFunction 5 = .ok (.invokevirtual 67, 3) := by decide +kernel
theorem dL_ofFunction_8 : decode cL_ofFunction 8 = .ok (.i2l, 1) := by decide +kernel
theorem dL_ofFunction_9 : decode cL_ofFunction 9 = .ok (.lastore, 1) := by decide +kernel
theorem dL_ofFunction_10 : decode cL_ofFunction 10 = .ok (.goto 11, 3) := by decide +kernel
theorem dL_ofFunction_13 : decode cL_ofFunction 13 = .ok (.astore 4, 2) := by decide +kernel
theorem dL_ofFunction_15 : decode cL_ofFunction 15 = .ok (.iconst 1, 1) := by decide +kernel
theorem dL_ofFunction_16 : decode cL_ofFunction 16 = .ok (.ireturn, 1) := by decide +kernel
theorem dL_ofFunction_17 : decode cL_ofFunction 17 = .ok (.astore 4, 2) := by decide +kernel
theorem dL_ofFunction_19 : decode cL_ofFunction 19 = .ok (.iconst 2, 1) := by decide +kernel
theorem dL_ofFunction_20 : decode cL_ofFunction 20 = .ok (.ireturn, 1) := by decide +kernel
theorem dL_ofFunction_21 : decode cL_ofFunction 21 = .ok (.iconst 0, 1) := by decide +kernel
theorem dL_ofFunction_22 : decode cL_ofFunction 22 = .ok (.ireturn, 1) := by decide +kernel
set_option maxRecDepth 20000 in
theorem ggL_value_X3_value : GoodIn wsL_value wsX3_value := goodIn_ca (goodIn_r _ [6, 7, 8, 9, 5, 10, 11, 12, 13, 14, 15, 16, 17, 18, 19, 20, 21, 22, 23, 24, 25, 26, 27, 28, 29] (by decide +kernel) (by decide +kernel)) (goodIn_sub (fun _ h => List.mem_cons_of_mem _ (List.mem_append_right _ h)) (by decide +kernel))
set_option maxRecDepth 20000 in
theorem gL_value_X3_value : GoodIn wsL_value (wsV RL 70 RX3 yX3_value wsX3_value) := goodIn_app (goodIn_of _ (by decide +kernel)) ggL_value_X3_value
theorem dL_value_0 : decode cL_value 0 = .ok (.aload_n 3, 1) := by decide +kernel
theorem dL_value_1 : decode cL_value 1 = .ok (.iconst 0, 1) := by decide +kernel
theorem dL_value_2 : decode cL_value 2 = .ok (.aload_n 0, 1) := by decide +kernel
theorem dL_value_3 : decode cL_value 3 = .ok (.iload_n 1, 1) := by decide +kernel
theorem dL_value_4 : decode cL_value 4 = .ok (.iload_n 2, 1) := by decide +kernel
theorem dL_value_5 : decode cL_value 5 = .ok (.invokevirtual 70, 3) := by decide +kernel
theorem dL_value_8 : decode cL_value 8 = .ok (.i2l, 1) := by decide +kernel
theorem dL_value_9 : decode cL_value 9 = .ok (.lastore, 1) := by decide +kernel
theorem dL_value_10 : decode cL_value 10 = .ok (.goto 7, 3) := by decide +kernel
theorem dL_value_13 : decode cL_value 13 = .ok (.astore 4, 2) := by decide +kernel
theorem dL_value_15 : decode cL_value 15 = .ok (.iconst 1, 1) := by decide +kernel
theorem dL_value_16 : decode cL_value 16 = .ok (.ireturn, 1) := by decide +kernel
theorem dL_value_17 : decode cL_value 17 = .ok (.iconst 0, 1) := by decide +kernel
theorem dL_value_18 : decode cL_value 18 = .ok (.ireturn, 1) := by decide +kernel
set_option maxRecDepth 20000 in
theorem ggL_area_X3_area : GoodIn wsL_area wsX3_area := goodIn_ca (goodIn_r _ [6, 7, 8, 9, 5, 10, 11, 12, 13, 14, 15, 16, 17, 18, 19, 20, 21, 22, 23, 24, 25, 26, 27, 28, 29, 30, 31, 32, 33, 34, 35, 36, 37, 38, 39, 40, 41, 42, 43, 44, 45] (by decide +kernel) (by decide +kernel)) (goodIn_sub (fun _ h => List.mem_cons_of_mem _ (List.mem_append_right _ h)) (by decide +kernel))
set_option maxRecDepth 20000 in
theorem gL_area_X3_area : GoodIn wsL_area (wsV RL 73 RX3 yX3_area wsX3_area) := goodIn_app (goodIn_of _ (by decide +kernel)) ggL_area_X3_area
theorem dL_area_0 : decode cL_area 0 = .ok (.aload_n 3, 1) := by decide +kernel
theorem dL_area_1 : decode cL_area 1 = .ok (.iconst 0, 1) := by decide +kernel
theorem dL_area_2 : decode cL_area 2 = .ok (.aload_n 0, 1) := by decide +kernel
theorem dL_area_3 : decode cL_area 3 = .ok (.iload_n 1, 1) := by decide +kernel
theorem dL_area_4 : decode cL_area 4 = .ok (.iload_n 2, 1) := by decide +kernel
theorem dL_area_5 : decode cL_area 5 = .ok (.invokevirtual 73, 3) := by decide +kernel
theorem dL_area_8 : decode cL_area 8 = .ok (.i2l, 1) := by decide +kernel
theorem dL_area_9 : decode cL_area 9 = .ok (.lastore, 1) := by decide +kernel
theorem dL_area_10 : decode cL_area 10 = .ok (.goto 7, 3) := by decide +kernel
theorem dL_area_13 : decode cL_area 13 = .ok (.astore 4, 2) := by decide +kernel
theorem dL_area_15 : decode cL_area 15 = .ok (.iconst 1, 1) := by decide +kernel
theorem dL_area_16 : decode cL_area 16 = .ok (.ireturn, 1) := by decide +kernel
theorem dL_area_17 : decode cL_area 17 = .ok (.iconst 0, 1) := by decide +kernel
theorem dL_area_18 : decode cL_area 18 = .ok (.ireturn, 1) := by decide +kernel
set_option maxRecDepth 20000 in
theorem ggL_mean_X3_mean : GoodIn wsL_mean wsX3_mean := goodIn_ca (goodIn_r _ [6, 7, 8, 9, 5, 10, 11, 12, 13, 14, 15, 16, 17, 18, 19, 20, 21, 22, 23, 24, 25, 26, 27, 28, 29, 30, 31, 32, 33, 34, 35, 36, 37, 38, 39, 40, 41, 42, 43, 44, 45, 46, 47, 48, 49, 50] (by decide +kernel) (by decide +kernel)) (goodIn_sub (fun _ h => List.mem_cons_of_mem _ (List.mem_append_right _ h)) (by decide +kernel))
set_option maxRecDepth 20000 in
theorem gL_mean_X3_mean : GoodIn wsL_mean (wsV RL 76 RX3 yX3_mean wsX3_mean) := goodIn_app (goodIn_of _ (by decide +kernel)) ggL_mean_X3_mean
theorem dL_mean_0 : decode cL_mean 0 = .ok (.aload_n 3, 1) := by decide +kernel
theorem dL_mean_1 : decode cL_mean 1 = .ok (.iconst 0, 1) := by decide +kernel
theorem dL_mean_2 : decode cL_mean 2 = .ok (.aload_n 0, 1) := by decide +kernel
theorem dL_mean_3 : decode cL_mean 3 = .ok (.iload_n 1, 1) := by decide +kernel
theorem dL_mean_4 : decode cL_mean 4 = .ok (.iload_n 2, 1) := by decide +kernel
theorem dL_mean_5 : decode cL_mean 5 = .ok (.invokevirtual 76, 3) := by decide +kernel
theorem dL_mean_8 : decode cL_mean 8 = .ok (.dastore, 1) := by decide +kernel
theorem dL_mean_9 : decode cL_mean 9 = .ok (.goto 7, 3) := by decide +kernel
theorem dL_mean_12 : decode cL_mean 12 = .ok (.astore 4, 2) := by decide +kernel
theorem dL_mean_14 : decode cL_mean 14 = .ok (.iconst 1, 1) := by decide +kernel
theorem dL_mean_15 : decode cL_mean 15 = .ok (.ireturn, 1) := by decide +kernel
theorem dL_mean_16 : decode cL_mean 16 = .ok (.iconst 0, 1) := by decide +kernel
theorem dL_mean_17 : decode cL_mean 17 = .ok (.ireturn, 1) := by decide +kernel
set_option maxRecDepth 20000 in
theorem ggL_thicker_X3_thicker : GoodIn wsL_thicker wsX3_thicker := goodIn_ca (goodIn_r _ [6, 7, 8, 5, 9, 10, 11, 12, 13, 14, 15, 16, 17, 18, 19, 20, 21, 22, 23, 24, 25, 26, 27, 28, 29, 30, 31, 32, 33, 34, 35, 36, 37, 38, 39, 40, 41] (by decide +kernel) (by decide +kernel)) (goodIn_sub (fun _ h => List.mem_cons_of_mem _ (List.mem_append_right _ h)) (by decide +kernel))
set_option maxRecDepth 20000 in
theorem gL_thicker_X3_thicker : GoodIn wsL_thicker (wsV RL 80 RX3 yX3_thicker wsX3_thicker) := goodIn_app (goodIn_of _ (by decide +kernel)) ggL_thicker_X3_thicker
theorem dL_thicker_0 : decode cL_thicker 0 = .ok (.aload_n 3, 1) := by decide +kernel
theorem dL_thicker_1 : decode cL_thicker 1 = .ok (.iconst 0, 1) := by decide +kernel
theorem dL_thicker_2 : decode cL_thicker 2 = .ok (.aload_n 0, 1) := by decide +kernel
theorem dL_thicker_3 : decode cL_thicker 3 = .ok (.iload_n 1, 1) := by decide +kernel
theorem dL_thicker_4 : decode cL_thicker 4 = .ok (.iload_n 2, 1) := by decide +kernel
theorem dL_thicker_5 : decode cL_thicker 5 = .ok (.invokevirtual 80, 3) := by decide +kernel
theorem dL_thicker_8 : decode cL_thicker 8 = .ok (.i2l, 1) := by decide +kernel
theorem dL_thicker_9 : decode cL_thicker 9 = .ok (.lastore, 1) := by decide +kernel
theorem dL_thicker_10 : decode cL_thicker 10 = .ok (.goto 7, 3) := by decide +kernel
theorem dL_thicker_13 : decode cL_thicker 13 = .ok (.astore 4, 2) := by decide +kernel
theorem dL_thicker_15 : decode cL_thicker 15 = .ok (.iconst 1, 1) := by decide +kernel
theorem dL_thicker_16 : decode cL_thicker 16 = .ok (.ireturn, 1) := by decide +kernel
theorem dL_thicker_17 : decode cL_thicker 17 = .ok (.iconst 0, 1) := by decide +kernel
theorem dL_thicker_18 : decode cL_thicker 18 = .ok (.ireturn, 1) := by decide +kernel
set_option maxRecDepth 20000 in
theorem ggL_cover_X3_cover : GoodIn wsL_cover wsX3_cover := goodIn_ca (goodIn_ca (goodIn_r _ [7, 8, 9, 10, 6, 11, 12, 13, 14, 15, 16, 17, 18, 19, 20, 21, 22, 23, 24, 25, 26, 27, 28, 29, 30, 31, 32, 33, 34, 35, 36, 37, 38, 39, 40, 41, 42, 43, 44, 45, 46, 47, 48, 49, 50, 51, 52, 53, 54] (by decide +kernel) (by decide +kernel)) (goodIn_sub (fun _ h => List.mem_cons_of_mem _ (List.mem_append_left _ (List.mem_append_right _ h))) (by decide +kernel))) (goodIn_sub (fun _ h => List.mem_cons_of_mem _ (List.mem_append_right _ h)) (by decide +kernel))
set_option maxRecDepth 20000 in
theorem gL_cover_X3_cover : GoodIn wsL_cover (wsV RL 83 RX3 yX3_cover wsX3_cover) := goodIn_app (goodIn_of _ (by decide +kernel)) ggL_cover_X3_cover
theorem dL_cover_0 : decode cL_cover 0 = .ok (.aload_n 3, 1) := by decide +kernel
theorem dL_cover_1 : decode cL_cover 1 = .ok (.iconst 0, 1) := by decide +kernel
theorem dL_cover_2 : decode cL_cover 2 = .ok (.aload_n 0, 1) := by decide +kernel
theorem dL_cover_3 : decode cL_cover 3 = .ok (.iload_n 1, 1) := by decide +kernel
theorem dL_cover_4 : decode cL_cover 4 = .ok (.iload_n 2, 1) := by decide +kernel
theorem dL_cover_5 : decode cL_cover 5 = .ok (.invokevirtual 83, 3) := by decide +kernel
theorem dL_cover_8 : decode cL_cover 8 = .ok (.i2l, 1) := by decide +kernel
theorem dL_cover_9 : decode cL_cover 9 = .ok (.lastore, 1) := by decide +kernel
theorem dL_cover_10 : decode cL_cover 10 = .ok (.goto 11, 3) := by decide +kernel
theorem dL_cover_13 : decode cL_cover 13 = .ok (.astore 4, 2) := by decide +kernel
theorem dL_cover_15 : decode cL_cover 15 = .ok (.iconst 1, 1) := by decide +kernel
theorem dL_cover_16 : decode cL_cover 16 = .ok (.ireturn, 1) := by decide +kernel
theorem dL_cover_17 : decode cL_cover 17 = .ok (.astore 4, 2) := by decide +kernel
theorem dL_cover_19 : decode cL_cover 19 = .ok (.iconst 2, 1) := by decide +kernel
theorem dL_cover_20 : decode cL_cover 20 = .ok (.ireturn, 1) := by decide +kernel
theorem dL_cover_21 : decode cL_cover 21 = .ok (.iconst 0, 1) := by decide +kernel
theorem dL_cover_22 : decode cL_cover 22 = .ok (.ireturn, 1) := by decide +kernel
set_option maxRecDepth 20000 in
theorem ggL_covers_X3_covers : GoodIn wsL_covers wsX3_covers := goodIn_ca (goodIn_ca (goodIn_r _ [7, 8, 9, 10, 11, 12, 13, 6, 14, 15, 16, 17, 18, 19, 20, 21, 22, 23, 24, 25, 26, 27, 28, 29, 30, 31, 32, 33, 34, 35, 36, 37, 38, 39, 40, 41, 42, 43, 44, 45, 46, 47, 48, 49, 50, 51, 52, 53, 54] (by decide +kernel) (by decide +kernel)) (goodIn_sub (fun _ h => List.mem_cons_of_mem _ (List.mem_append_left _ (List.mem_append_right _ h))) (by decide +kernel))) (goodIn_sub (fun _ h => List.mem_cons_of_mem _ (List.mem_append_right _ h)) (by decide +kernel))
set_option maxRecDepth 20000 in
theorem gL_covers_X3_covers : GoodIn wsL_covers (wsV RL 86 RX3 yX3_covers wsX3_covers) := goodIn_app (goodIn_of _ (by decide +kernel)) ggL_covers_X3_covers
theorem dL_covers_0 : decode cL_covers 0 = .ok (.aload 4, 2) := by decide +kernel
theorem dL_covers_2 : decode cL_covers 2 = .ok (.iconst 0, 1) := by decide +kernel
theorem dL_covers_3 : decode cL_covers 3 = .ok (.aload_n 0, 1) := by decide +kernel
theorem dL_covers_4 : decode cL_covers 4 = .ok (.iload_n 1, 1) := by decide +kernel
theorem dL_covers_5 : decode cL_covers 5 = .ok (.iload_n 2, 1) := by decide +kernel
theorem dL_covers_6 : decode cL_covers 6 = .ok (.iload_n 3, 1) := by decide +kernel
theorem dL_covers_7 : decode cL_covers 7 = .ok (.invokevirtual 86, 3) := by decide +kernel
theorem dL_covers_10 : decode cL_covers 10 = .ok (.i2l, 1) := by decide +kernel
theorem dL_covers_11 : decode cL_covers 11 = .ok (.lastore, 1) := by decide +kernel
theorem dL_covers_12 : decode cL_covers 12 = .ok (.goto 11, 3) := by decide +kernel
theorem dL_covers_15 : decode cL_covers 15 = .ok (.astore 5, 2) := by decide +kernel
theorem dL_covers_17 : decode cL_covers 17 = .ok (.iconst 1, 1) := by decide +kernel
theorem dL_covers_18 : decode cL_covers 18 = .ok (.ireturn, 1) := by decide +kernel
theorem dL_covers_19 : decode cL_covers 19 = .ok (.astore 5, 2) := by decide +kernel
theorem dL_covers_21 : decode cL_covers 21 = .ok (.iconst 2, 1) := by decide +kernel
theorem dL_covers_22 : decode cL_covers 22 = .ok (.ireturn, 1) := by decide +kernel
theorem dL_covers_23 : decode cL_covers 23 = .ok (.iconst 0, 1) := by decide +kernel
theorem dL_covers_24 : decode cL_covers 24 = .ok (.ireturn, 1) := by decide +kernel
set_option maxRecDepth 20000 in
theorem ggL_apart_X3_apart : GoodIn wsL_apart wsX3_apart := goodIn_ca (goodIn_r _ [6, 7, 8, 5, 9, 10, 11, 12, 13, 14, 15, 16, 17, 18, 19, 20, 21, 22, 23, 24, 25, 26, 27, 28, 29, 30, 31, 32, 33, 34, 35, 36, 37, 38, 39, 40, 41, 42, 43, 44, 45, 46] (by decide +kernel) (by decide +kernel)) (goodIn_sub (fun _ h => List.mem_cons_of_mem _ (List.mem_append_right _ h)) (by decide +kernel))
set_option maxRecDepth 20000 in
theorem gL_apart_X3_apart : GoodIn wsL_apart (wsV RL 89 RX3 yX3_apart wsX3_apart) := goodIn_app (goodIn_of _ (by decide +kernel)) ggL_apart_X3_apart
theorem dL_apart_0 : decode cL_apart 0 = .ok (.aload_n 2, 1) := by decide +kernel
theorem dL_apart_1 : decode cL_apart 1 = .ok (.iconst 0, 1) := by decide +kernel
theorem dL_apart_2 : decode cL_apart 2 = .ok (.aload_n 0, 1) := by decide +kernel
theorem dL_apart_3 : decode cL_apart 3 = .ok (.iload_n 1, 1) := by decide +kernel
theorem dL_apart_4 : decode cL_apart 4 = .ok (.invokevirtual 89, 3) := by decide +kernel
theorem dL_apart_7 : decode cL_apart 7 = .ok (.i2l, 1) := by decide +kernel
theorem dL_apart_8 : decode cL_apart 8 = .ok (.lastore, 1) := by decide +kernel
theorem dL_apart_9 : decode cL_apart 9 = .ok (.goto 6, 3) := by decide +kernel
theorem dL_apart_12 : decode cL_apart 12 = .ok (.astore_n 3, 1) := by decide +kernel
theorem dL_apart_13 : decode cL_apart 13 = .ok (.iconst 1, 1) := by decide +kernel
theorem dL_apart_14 : decode cL_apart 14 = .ok (.ireturn, 1) := by decide +kernel
theorem dL_apart_15 : decode cL_apart 15 = .ok (.iconst 0, 1) := by decide +kernel
theorem dL_apart_16 : decode cL_apart 16 = .ok (.ireturn, 1) := by decide +kernel
set_option maxRecDepth 20000 in
theorem ggL_pins_X3_pins : GoodIn wsL_pins wsX3_pins := goodIn_ca (goodIn_r _ [6, 7, 8, 5, 9, 10, 11, 12, 13, 14, 15, 16, 17, 18, 19, 20, 21, 22, 23, 24, 25, 26, 27, 28, 29, 30, 31, 32, 33, 34, 35, 36, 37, 38, 39, 40, 41, 42, 43, 44, 45, 46] (by decide +kernel) (by decide +kernel)) (goodIn_sub (fun _ h => List.mem_cons_of_mem _ (List.mem_append_right _ h)) (by decide +kernel))
set_option maxRecDepth 20000 in
theorem gL_pins_X3_pins : GoodIn wsL_pins (wsV RL 93 RX3 yX3_pins wsX3_pins) := goodIn_app (goodIn_of _ (by decide +kernel)) ggL_pins_X3_pins
theorem dL_pins_0 : decode cL_pins 0 = .ok (.aload_n 2, 1) := by decide +kernel
theorem dL_pins_1 : decode cL_pins 1 = .ok (.iconst 0, 1) := by decide +kernel
theorem dL_pins_2 : decode cL_pins 2 = .ok (.aload_n 0, 1) := by decide +kernel
theorem dL_pins_3 : decode cL_pins 3 = .ok (.iload_n 1, 1) := by decide +kernel
theorem dL_pins_4 : decode cL_pins 4 = .ok (.invokevirtual 93, 3) := by decide +kernel
theorem dL_pins_7 : decode cL_pins 7 = .ok (.i2l, 1) := by decide +kernel
theorem dL_pins_8 : decode cL_pins 8 = .ok (.lastore, 1) := by decide +kernel
theorem dL_pins_9 : decode cL_pins 9 = .ok (.goto 6, 3) := by decide +kernel
theorem dL_pins_12 : decode cL_pins 12 = .ok (.astore_n 3, 1) := by decide +kernel
theorem dL_pins_13 : decode cL_pins 13 = .ok (.iconst 1, 1) := by decide +kernel
theorem dL_pins_14 : decode cL_pins 14 = .ok (.ireturn, 1) := by decide +kernel
theorem dL_pins_15 : decode cL_pins 15 = .ok (.iconst 0, 1) := by decide +kernel
theorem dL_pins_16 : decode cL_pins 16 = .ok (.ireturn, 1) := by decide +kernel
set_option maxRecDepth 20000 in
theorem ggL_meetWith_X3_meetWith : GoodIn wsL_meetWith wsX3_meetWith := goodIn_ca (goodIn_ca (goodIn_r _ [7, 8, 9, 10, 6, 11, 12, 13, 14, 15, 16, 17, 18, 19, 20, 21, 22, 23, 24, 25, 26, 27, 28, 29, 30, 31, 32, 33, 34, 35, 36] (by decide +kernel) (by decide +kernel)) (goodIn_sub (fun _ h => List.mem_cons_of_mem _ (List.mem_append_left _ (List.mem_append_right _ h))) (by decide +kernel))) (goodIn_sub (fun _ h => List.mem_cons_of_mem _ (List.mem_append_right _ h)) (by decide +kernel))
set_option maxRecDepth 20000 in
theorem gL_meetWith_X3_meetWith : GoodIn wsL_meetWith (wsV RL 96 RX3 yX3_meetWith wsX3_meetWith) := goodIn_app (goodIn_of _ (by decide +kernel)) ggL_meetWith_X3_meetWith
theorem dL_meetWith_0 : decode cL_meetWith 0 = .ok (.aload 4, 2) := by decide +kernel
theorem dL_meetWith_2 : decode cL_meetWith 2 = .ok (.iconst 0, 1) := by decide +kernel
theorem dL_meetWith_3 : decode cL_meetWith 3 = .ok (.aload_n 0, 1) := by decide +kernel
theorem dL_meetWith_4 : decode cL_meetWith 4 = .ok (.iload_n 1, 1) := by decide +kernel
theorem dL_meetWith_5 : decode cL_meetWith 5 = .ok (.iload_n 2, 1) := by decide +kernel
theorem dL_meetWith_6 : decode cL_meetWith 6 = .ok (.iload_n 3, 1) := by decide +kernel
theorem dL_meetWith_7 : decode cL_meetWith 7 = .ok (.invokevirtual 96, 3) := by decide +kernel
theorem dL_meetWith_10 : decode cL_meetWith 10 = .ok (.i2l, 1) := by decide +kernel
theorem dL_meetWith_11 : decode cL_meetWith 11 = .ok (.lastore, 1) := by decide +kernel
theorem dL_meetWith_12 : decode cL_meetWith 12 = .ok (.goto 11, 3) := by decide +kernel
theorem dL_meetWith_15 : decode cL_meetWith 15 = .ok (.astore 5, 2) := by decide +kernel
theorem dL_meetWith_17 : decode cL_meetWith 17 = .ok (.iconst 1, 1) := by decide +kernel
theorem dL_meetWith_18 : decode cL_meetWith 18 = .ok (.ireturn, 1) := by decide +kernel
theorem dL_meetWith_19 : decode cL_meetWith 19 = .ok (.astore 5, 2) := by decide +kernel
theorem dL_meetWith_21 : decode cL_meetWith 21 = .ok (.iconst 2, 1) := by decide +kernel
theorem dL_meetWith_22 : decode cL_meetWith 22 = .ok (.ireturn, 1) := by decide +kernel
theorem dL_meetWith_23 : decode cL_meetWith 23 = .ok (.iconst 0, 1) := by decide +kernel
theorem dL_meetWith_24 : decode cL_meetWith 24 = .ok (.ireturn, 1) := by decide +kernel
set_option maxRecDepth 20000 in
theorem ggL_clear_X3_clear : GoodIn wsL_clear wsX3_clear := goodIn_ca (goodIn_r _ [6, 7, 8, 9, 5, 10, 11, 12, 13, 14, 15, 16, 17, 18, 19, 20, 21, 22, 23, 24, 25, 26, 27, 28, 29, 30, 31, 32, 33] (by decide +kernel) (by decide +kernel)) (goodIn_sub (fun _ h => List.mem_cons_of_mem _ (List.mem_append_right _ h)) (by decide +kernel))
set_option maxRecDepth 20000 in
theorem gL_clear_X3_clear : GoodIn wsL_clear (wsV RL 99 RX3 yX3_clear wsX3_clear) := goodIn_app (goodIn_of _ (by decide +kernel)) ggL_clear_X3_clear
theorem dL_clear_0 : decode cL_clear 0 = .ok (.aload_n 3, 1) := by decide +kernel
theorem dL_clear_1 : decode cL_clear 1 = .ok (.iconst 0, 1) := by decide +kernel
theorem dL_clear_2 : decode cL_clear 2 = .ok (.aload_n 0, 1) := by decide +kernel
theorem dL_clear_3 : decode cL_clear 3 = .ok (.iload_n 1, 1) := by decide +kernel
theorem dL_clear_4 : decode cL_clear 4 = .ok (.iload_n 2, 1) := by decide +kernel
theorem dL_clear_5 : decode cL_clear 5 = .ok (.invokevirtual 99, 3) := by decide +kernel
theorem dL_clear_8 : decode cL_clear 8 = .ok (.i2l, 1) := by decide +kernel
theorem dL_clear_9 : decode cL_clear 9 = .ok (.lastore, 1) := by decide +kernel
theorem dL_clear_10 : decode cL_clear 10 = .ok (.goto 7, 3) := by decide +kernel
theorem dL_clear_13 : decode cL_clear 13 = .ok (.astore 4, 2) := by decide +kernel
theorem dL_clear_15 : decode cL_clear 15 = .ok (.iconst 1, 1) := by decide +kernel
theorem dL_clear_16 : decode cL_clear 16 = .ok (.ireturn, 1) := by decide +kernel
theorem dL_clear_17 : decode cL_clear 17 = .ok (.iconst 0, 1) := by decide +kernel
theorem dL_clear_18 : decode cL_clear 18 = .ok (.ireturn, 1) := by decide +kernel
set_option maxRecDepth 20000 in
theorem ggL_best_X3_best : GoodIn wsL_best wsX3_best := goodIn_ca (goodIn_ca (goodIn_r _ [7, 8, 9, 10, 11, 12, 6, 13, 14, 15, 16, 17, 18, 19, 20, 21, 22, 23, 24, 25, 26, 27, 28, 29, 30, 31, 32] (by decide +kernel) (by decide +kernel)) (goodIn_sub (fun _ h => List.mem_cons_of_mem _ (List.mem_append_left _ (List.mem_append_right _ h))) (by decide +kernel))) (goodIn_sub (fun _ h => List.mem_cons_of_mem _ (List.mem_append_right _ h)) (by decide +kernel))
set_option maxRecDepth 20000 in
theorem gL_best_X3_best : GoodIn wsL_best (wsV RL 102 RX3 yX3_best wsX3_best) := goodIn_app (goodIn_of _ (by decide +kernel)) ggL_best_X3_best
theorem dL_best_0 : decode cL_best 0 = .ok (.aload_n 3, 1) := by decide +kernel
theorem dL_best_1 : decode cL_best 1 = .ok (.iconst 0, 1) := by decide +kernel
theorem dL_best_2 : decode cL_best 2 = .ok (.aload_n 0, 1) := by decide +kernel
theorem dL_best_3 : decode cL_best 3 = .ok (.iload_n 1, 1) := by decide +kernel
theorem dL_best_4 : decode cL_best 4 = .ok (.iload_n 2, 1) := by decide +kernel
theorem dL_best_5 : decode cL_best 5 = .ok (.invokevirtual 102, 3) := by decide +kernel
theorem dL_best_8 : decode cL_best 8 = .ok (.i2l, 1) := by decide +kernel
theorem dL_best_9 : decode cL_best 9 = .ok (.lastore, 1) := by decide +kernel
theorem dL_best_10 : decode cL_best 10 = .ok (.goto 11, 3) := by decide +kernel
theorem dL_best_13 : decode cL_best 13 = .ok (.astore 4, 2) := by decide +kernel
theorem dL_best_15 : decode cL_best 15 = .ok (.iconst 1, 1) := by decide +kernel
theorem dL_best_16 : decode cL_best 16 = .ok (.ireturn, 1) := by decide +kernel
theorem dL_best_17 : decode cL_best 17 = .ok (.astore 4, 2) := by decide +kernel
theorem dL_best_19 : decode cL_best 19 = .ok (.iconst 2, 1) := by decide +kernel
theorem dL_best_20 : decode cL_best 20 = .ok (.ireturn, 1) := by decide +kernel
theorem dL_best_21 : decode cL_best 21 = .ok (.iconst 0, 1) := by decide +kernel
theorem dL_best_22 : decode cL_best 22 = .ok (.ireturn, 1) := by decide +kernel
set_option maxRecDepth 20000 in
theorem ggL_saves_X3_saves : GoodIn wsL_saves wsX3_saves := goodIn_ca (goodIn_ca (goodIn_r _ [7, 8, 9, 10, 6, 11, 12, 13, 14, 15, 16, 17, 18, 19, 20, 21, 22, 23, 24, 25, 26, 27, 28, 29, 30, 31, 32, 33, 34, 35, 36, 37, 38, 39, 40, 41, 42, 43, 44, 45, 46, 47, 48, 49, 50, 51, 52, 53, 54, 55, 56, 57] (by decide +kernel) (by decide +kernel)) (goodIn_sub (fun _ h => List.mem_cons_of_mem _ (List.mem_append_left _ (List.mem_append_right _ h))) (by decide +kernel))) (goodIn_sub (fun _ h => List.mem_cons_of_mem _ (List.mem_append_right _ h)) (by decide +kernel))
set_option maxRecDepth 20000 in
theorem gL_saves_X3_saves : GoodIn wsL_saves (wsV RL 105 RX3 yX3_saves wsX3_saves) := goodIn_app (goodIn_of _ (by decide +kernel)) ggL_saves_X3_saves
theorem dL_saves_0 : decode cL_saves 0 = .ok (.aload 4, 2) := by decide +kernel
theorem dL_saves_2 : decode cL_saves 2 = .ok (.iconst 0, 1) := by decide +kernel
theorem dL_saves_3 : decode cL_saves 3 = .ok (.aload_n 0, 1) := by decide +kernel
theorem dL_saves_4 : decode cL_saves 4 = .ok (.iload_n 1, 1) := by decide +kernel
theorem dL_saves_5 : decode cL_saves 5 = .ok (.iload_n 2, 1) := by decide +kernel
theorem dL_saves_6 : decode cL_saves 6 = .ok (.iload_n 3, 1) := by decide +kernel
theorem dL_saves_7 : decode cL_saves 7 = .ok (.invokevirtual 105, 3) := by decide +kernel
theorem dL_saves_10 : decode cL_saves 10 = .ok (.i2l, 1) := by decide +kernel
theorem dL_saves_11 : decode cL_saves 11 = .ok (.lastore, 1) := by decide +kernel
theorem dL_saves_12 : decode cL_saves 12 = .ok (.goto 11, 3) := by decide +kernel
theorem dL_saves_15 : decode cL_saves 15 = .ok (.astore 5, 2) := by decide +kernel
theorem dL_saves_17 : decode cL_saves 17 = .ok (.iconst 1, 1) := by decide +kernel
theorem dL_saves_18 : decode cL_saves 18 = .ok (.ireturn, 1) := by decide +kernel
theorem dL_saves_19 : decode cL_saves 19 = .ok (.astore 5, 2) := by decide +kernel
theorem dL_saves_21 : decode cL_saves 21 = .ok (.iconst 2, 1) := by decide +kernel
theorem dL_saves_22 : decode cL_saves 22 = .ok (.ireturn, 1) := by decide +kernel
theorem dL_saves_23 : decode cL_saves 23 = .ok (.iconst 0, 1) := by decide +kernel
theorem dL_saves_24 : decode cL_saves 24 = .ok (.ireturn, 1) := by decide +kernel
