theorem dX4_found_0 : decode cX4_found 0 = .ok (.iconst 0, 1) := by decide +kernel
theorem dX4_found_1 : decode cX4_found 1 = .ok (.istore_n 1, 1) := by decide +kernel
theorem dX4_found_2 : decode cX4_found 2 = .ok (.iload_n 1, 1) := by decide +kernel
theorem dX4_found_3 : decode cX4_found 3 = .ok (.bipush 14, 2) := by decide +kernel
theorem dX4_found_5 : decode cX4_found 5 = .ok (.if_icmp .ge 18, 3) := by decide +kernel
theorem dX4_found_8 : decode cX4_found 8 = .ok (.aload_n 0, 1) := by decide +kernel
theorem dX4_found_9 : decode cX4_found 9 = .ok (.invokevirtual 149, 3) := by decide +kernel
theorem dX4_found_12 : decode cX4_found 12 = .ok (.ifCond .ne 5, 3) := by decide +kernel
theorem dX4_found_15 : decode cX4_found 15 = .ok (.iconst 0, 1) := by decide +kernel
theorem dX4_found_16 : decode cX4_found 16 = .ok (.ireturn, 1) := by decide +kernel
theorem dX4_found_17 : decode cX4_found 17 = .ok (.iinc 1 1, 3) := by decide +kernel
theorem dX4_found_20 : decode cX4_found 20 = .ok (.goto (-18), 3) := by decide +kernel
theorem dX4_found_23 : decode cX4_found 23 = .ok (.aload_n 0, 1) := by decide +kernel
theorem dX4_found_24 : decode cX4_found 24 = .ok (.invokevirtual 152, 3) := by decide +kernel
theorem dX4_found_27 : decode cX4_found 27 = .ok (.ifCond .eq 21, 3) := by decide +kernel
theorem dX4_found_30 : decode cX4_found 30 = .ok (.aload_n 0, 1) := by decide +kernel
theorem dX4_found_31 : decode cX4_found 31 = .ok (.invokevirtual 152, 3) := by decide +kernel
theorem dX4_found_34 : decode cX4_found 34 = .ok (.ifCond .eq 14, 3) := by decide +kernel
theorem dX4_found_37 : decode cX4_found 37 = .ok (.aload_n 0, 1) := by decide +kernel
theorem dX4_found_38 : decode cX4_found 38 = .ok (.invokevirtual 154, 3) := by decide +kernel
theorem dX4_found_41 : decode cX4_found 41 = .ok (.ifCond .eq 7, 3) := by decide +kernel
theorem dX4_found_44 : decode cX4_found 44 = .ok (.iconst 1, 1) := by decide +kernel
theorem dX4_found_45 : decode cX4_found 45 = .ok (.goto 4, 3) := by decide +kernel
theorem dX4_found_48 : decode cX4_found 48 = .ok (.iconst 0, 1) := by decide +kernel
theorem dX4_found_49 : decode cX4_found 49 = .ok (.ireturn, 1) := by decide +kernel
set_option maxRecDepth 20000 in
theorem ggX4_actSet_X4_draw : GoodIn wsX4_actSet wsX4_draw := goodIn_r _ [5, 6, 7, 8, 9, 10, 11, 12, 13, 14, 242, 243, 244, 245, 246] (by decide +kernel) (by decide +kernel)
set_option maxRecDepth 20000 in
theorem gX4_actSet_X4_draw : GoodIn wsX4_actSet (wsV RX4 62 RX4 yX4_draw wsX4_draw) := goodIn_app (goodIn_of _ (by decide +kernel)) ggX4_actSet_X4_draw
set_option maxRecDepth 20000 in
theorem ggX4_actSet_X4_join : GoodIn wsX4_actSet wsX4_join := goodIn_ca (goodIn_ca (goodIn_r _ [18, 19, 20, 21, 1, 2, 3, 4, 5, 6, 7, 8, 9, 10, 11, 12, 13, 14, 22, 23, 24, 25, 26, 27, 28, 29, 30, 31, 32, 33, 34, 35, 36, 37, 38, 39, 40, 41, 42, 43, 44, 45, 46, 47, 48, 49, 50, 51, 52, 53, 54, 55, 56, 57, 58, 59, 60, 61, 62, 63, 64, 65, 66, 67, 68, 69, 70, 71, 72, 73, 74, 75, 76, 77, 78, 242, 243, 244, 245, 246, 247, 248, 249, 250, 251, 252, 253] (by decide +kernel) (by decide +kernel)) (goodIn_sub (fun _ h => List.mem_cons_of_mem _ (List.mem_append_left _ (List.mem_append_right _ h))) (by decide +kernel))) (goodIn_sub (fun _ h => List.mem_cons_of_mem _ (List.mem_append_right _ h)) (by decide +kernel))
set_option maxRecDepth 20000 in
theorem gX4_actSet_X4_join : GoodIn wsX4_actSet (wsV RX4 156 RX4 yX4_join wsX4_join) := goodIn_app (goodIn_of _ (by decide +kernel)) ggX4_actSet_X4_join
set_option maxRecDepth 20000 in
theorem ggX4_actSet_X4_move : GoodIn wsX4_actSet wsX4_move := goodIn_ca (goodIn_ca (goodIn_r _ [187, 20, 21, 1, 2, 3, 4, 5, 6, 7, 8, 9, 10, 11, 12, 13, 14, 188, 189, 190, 28, 29, 83, 84, 85, 86, 191, 192, 193, 30, 31, 32, 33, 34, 35, 36, 194, 195, 196, 40, 197, 198, 42, 43, 44, 45, 46, 47, 48, 49, 50, 51, 52, 199, 200, 201, 56, 57, 202, 203, 204, 61, 205, 75, 59, 60, 62, 63, 108, 68, 69, 70, 58, 67, 71, 72, 73, 74, 76, 77, 78, 242, 243, 244, 245, 246, 247, 248, 249, 250, 251, 252, 253] (by decide +kernel) (by decide +kernel)) (goodIn_sub (fun _ h => List.mem_cons_of_mem _ (List.mem_append_left _ (List.mem_append_right _ h))) (by decide +kernel))) (goodIn_sub (fun _ h => List.mem_cons_of_mem _ (List.mem_append_right _ h)) (by decide +kernel))
set_option maxRecDepth 20000 in
theorem gX4_actSet_X4_move : GoodIn wsX4_actSet (wsV RX4 160 RX4 yX4_move wsX4_move) := goodIn_app (goodIn_of _ (by decide +kernel)) ggX4_actSet_X4_move
set_option maxRecDepth 20000 in
theorem ggX4_actSet_X4_stretch : GoodIn wsX4_actSet wsX4_stretch := goodIn_ca (goodIn_ca (goodIn_r _ [209, 28, 20, 29, 191, 192, 85, 193, 21, 1, 2, 3, 4, 5, 6, 7, 8, 9, 10, 11, 12, 13, 14, 30, 31, 32, 33, 34, 35, 36, 210, 211, 212, 40, 213, 56, 57, 198, 42, 43, 44, 45, 46, 47, 48, 49, 50, 51, 52, 202, 203, 204, 61, 205, 75, 59, 60, 62, 63, 108, 68, 69, 70, 169, 170, 171, 172, 173, 84, 86, 58, 214, 215, 216, 217, 167, 168, 67, 71, 72, 73, 74, 76, 77, 78, 242, 243, 244, 245, 246, 247, 248, 249, 250, 251, 252, 253] (by decide +kernel) (by decide +kernel)) (goodIn_sub (fun _ h => List.mem_cons_of_mem _ (List.mem_append_right _ h)) (by decide +kernel))) (goodIn_sub (fun _ h => List.mem_cons_of_mem _ (List.mem_append_left _ (List.mem_append_right _ h))) (by decide +kernel))
set_option maxRecDepth 20000 in
theorem gX4_actSet_X4_stretch : GoodIn wsX4_actSet (wsV RX4 162 RX4 yX4_stretch wsX4_stretch) := goodIn_app (goodIn_of _ (by decide +kernel)) ggX4_actSet_X4_stretch
set_option maxRecDepth 20000 in
theorem ggX4_actSet_X4_span : GoodIn wsX4_actSet wsX4_span := goodIn_ca (goodIn_ca (goodIn_r _ [221, 20, 21, 1, 2, 3, 4, 5, 6, 7, 8, 9, 10, 11, 12, 13, 14, 222, 223, 224, 225, 191, 192, 85, 193, 83, 84, 86, 29, 226, 227, 228, 19, 25, 26, 27, 28, 30, 31, 32, 33, 34, 35, 36, 229, 230, 231, 40, 232, 42, 43, 44, 45, 46, 47, 48, 49, 50, 51, 52, 233, 234, 235, 56, 57, 53, 54, 55, 236, 237, 238, 239, 240, 241, 169, 170, 171, 61, 172, 173, 75, 59, 60, 62, 63, 108, 68, 69, 70, 242, 243, 244, 245, 246, 247, 248, 249, 250, 251, 252, 253] (by decide +kernel) (by decide +kernel)) (goodIn_sub (fun _ h => List.mem_cons_of_mem _ (List.mem_append_left _ (List.mem_append_right _ h))) (by decide +kernel))) (goodIn_sub (fun _ h => List.mem_cons_of_mem _ (List.mem_append_right _ h)) (by decide +kernel))
set_option maxRecDepth 20000 in
theorem gX4_actSet_X4_span : GoodIn wsX4_actSet (wsV RX4 149 RX4 yX4_span wsX4_span) := goodIn_app (goodIn_of _ (by decide +kernel)) ggX4_actSet_X4_span
theorem dX4_actSet_0 : decode cX4_actSet 0 = .ok (.aload_n 0, 1) := by decide +kernel
theorem dX4_actSet_1 : decode cX4_actSet 1 = .ok (.bipush 8, 2) := by decide +kernel
theorem dX4_actSet_3 : decode cX4_actSet 3 = .ok (.invokevirtual 62, 3) := by decide +kernel
theorem dX4_actSet_6 : decode cX4_actSet 6 = .ok (.tableswitch 50 0 3 #[30, 35, 40, 45], 30) := by decide +kernel
theorem dX4_actSet_36 : decode cX4_actSet 36 = .ok (.aload_n 0, 1) := by decide +kernel
theorem dX4_actSet_37 : decode cX4_actSet 37 = .ok (.invokevirtual 156, 3) := by decide +kernel
theorem dX4_actSet_40 : decode cX4_actSet 40 = .ok (.ireturn, 1) := by decide +kernel
theorem dX4_actSet_41 : decode cX4_actSet 41 = .ok (.aload_n 0, 1) := by decide +kernel
theorem dX4_actSet_42 : decode cX4_actSet 42 = .ok (.invokevirtual 158, 3) := by decide +kernel
theorem dX4_actSet_45 : decode cX4_actSet 45 = .ok (.ireturn, 1) := by decide +kernel
theorem dX4_actSet_46 : decode cX4_actSet 46 = .ok (.aload_n 0, 1) := by decide +kernel
theorem dX4_actSet_47 : decode cX4_actSet 47 = .ok (.invokevirtual 160, 3) := by decide +kernel
theorem dX4_actSet_50 : decode cX4_actSet 50 = .ok (.ireturn, 1) := by decide +kernel
theorem dX4_actSet_51 : decode cX4_actSet 51 = .ok (.aload_n 0, 1) := by decide +kernel
theorem dX4_actSet_52 : decode cX4_actSet 52 = .ok (.invokevirtual 162, 3) := by decide +kernel
theorem dX4_actSet_55 : decode cX4_actSet 55 = .ok (.ireturn, 1) := by decide +kernel
theorem dX4_actSet_56 : decode cX4_actSet 56 = .ok (.aload_n 0, 1) := by decide +kernel
theorem dX4_actSet_57 : decode cX4_actSet 57 = .ok (.invokevirtual 149, 3) := by decide +kernel
theorem dX4_actSet_60 : decode cX4_actSet 60 = .ok (.ireturn, 1) := by decide +kernel
set_option maxRecDepth 20000 in
theorem ggX4_actFunction_X4_draw : GoodIn wsX4_actFunction wsX4_draw := goodIn_r _ [5, 6, 7, 8, 9, 10, 11, 12, 13, 14, 236, 237, 238, 239, 240] (by decide +kernel) (by decide +kernel)
set_option maxRecDepth 20000 in
theorem gX4_actFunction_X4_draw : GoodIn wsX4_actFunction (wsV RX4 62 RX4 yX4_draw wsX4_draw) := goodIn_app (goodIn_of _ (by decide +kernel)) ggX4_actFunction_X4_draw
set_option maxRecDepth 20000 in
theorem ggX4_actFunction_X4_raise : GoodIn wsX4_actFunction wsX4_raise := goodIn_ca (goodIn_ca (goodIn_r _ [18, 19, 20, 1, 2, 3, 4, 5, 6, 7, 8, 9, 10, 11, 12, 13, 14, 21, 22, 23, 24, 25, 26, 27, 28, 29, 30, 31, 32, 33, 34, 35, 36, 37, 38, 39, 40, 41, 42, 43, 44, 45, 46, 47, 48, 49, 50, 51, 52, 53, 54, 55, 56, 57, 58, 59, 60, 61, 62, 63, 64, 65, 66, 67, 68, 69, 70, 71, 72, 73, 74, 75, 76, 77, 78, 79, 80, 81, 236, 237, 238, 239, 240, 241, 242, 243, 244, 245, 246, 247] (by decide +kernel) (by decide +kernel)) (goodIn_sub (fun _ h => List.mem_cons_of_mem _ (List.mem_append_left _ (List.mem_append_right _ h))) (by decide +kernel))) (goodIn_sub (fun _ h => List.mem_cons_of_mem _ (List.mem_append_right _ h)) (by decide +kernel))
set_option maxRecDepth 20000 in
theorem gX4_actFunction_X4_raise : GoodIn wsX4_actFunction (wsV RX4 152 RX4 yX4_raise wsX4_raise) := goodIn_app (goodIn_of _ (by decide +kernel)) ggX4_actFunction_X4_raise
set_option maxRecDepth 20000 in
theorem ggX4_actFunction_X4_set : GoodIn wsX4_actFunction wsX4_set := goodIn_ca (goodIn_ca (goodIn_r _ [85, 86, 19, 20, 1, 2, 3, 4, 5, 6, 7, 8, 9, 10, 11, 12, 13, 14, 87, 88, 89, 90, 91, 92, 39, 93, 41, 42, 43, 44, 45, 46, 47, 48, 49, 94, 95, 96, 97, 98, 99, 100, 101, 102, 103, 104, 105, 106, 107, 108, 68, 69, 70, 65, 71, 67, 72, 26, 27, 28, 73, 30, 31, 74, 75, 76, 77, 78, 63, 64, 66, 79, 80, 81, 236, 237, 238, 239, 240, 241, 242, 243, 244, 245, 246, 248, 247] (by decide +kernel) (by decide +kernel)) (goodIn_sub (fun _ h => List.mem_cons_of_mem _ (List.mem_append_left _ (List.mem_append_right _ h))) (by decide +kernel))) (goodIn_sub (fun _ h => List.mem_cons_of_mem _ (List.mem_append_right _ h)) (by decide +kernel))
set_option maxRecDepth 20000 in
theorem gX4_actFunction_X4_set : GoodIn wsX4_actFunction (wsV RX4 164 RX4 yX4_set wsX4_set) := goodIn_app (goodIn_of _ (by decide +kernel)) ggX4_actFunction_X4_set
set_option maxRecDepth 20000 in
theorem ggX4_actFunction_X4_mix : GoodIn wsX4_actFunction wsX4_mix := goodIn_ca (goodIn_ca (goodIn_r _ [112, 32, 19, 20, 1, 2, 3, 4, 5, 6, 7, 8, 9, 10, 11, 12, 13, 14, 33, 34, 35, 113, 114, 115, 39, 116, 43, 44, 45, 46, 47, 48, 49, 53, 54, 55, 41, 42, 62, 63, 64, 65, 66, 67, 117, 118, 119, 120, 26, 27, 28, 121, 30, 31, 68, 69, 70, 71, 72, 73, 74, 75, 76, 77, 78, 79, 80, 81, 236, 237, 238, 239, 240, 241, 242, 243, 244, 245, 246, 247] (by decide +kernel) (by decide +kernel)) (goodIn_sub (fun _ h => List.mem_cons_of_mem _ (List.mem_append_right _ h)) (by decide +kernel))) (goodIn_sub (fun _ h => List.mem_cons_of_mem _ (List.mem_append_left _ (List.mem_append_right _ h))) (by decide +kernel))
set_option maxRecDepth 20000 in
theorem gX4_actFunction_X4_mix : GoodIn wsX4_actFunction (wsV RX4 166 RX4 yX4_mix wsX4_mix) := goodIn_app (goodIn_of _ (by decide +kernel)) ggX4_actFunction_X4_mix
set_option maxRecDepth 20000 in
theorem ggX4_actFunction_X4_turn : GoodIn wsX4_actFunction wsX4_turn := goodIn_ca (goodIn_ca (goodIn_r _ [125, 19, 32, 126, 127, 27, 128, 20, 1, 2, 3, 4, 5, 6, 7, 8, 9, 10, 11, 12, 13, 14, 33, 34, 35, 129, 130, 131, 39, 132, 41, 42, 43, 44, 45, 46, 47, 48, 49, 53, 54, 55, 133, 134, 135, 136, 137, 138, 139, 140, 65, 141, 78, 63, 64, 66, 67, 142, 69, 70, 71, 72, 26, 28, 73, 30, 31, 143, 144, 145, 146, 147, 148, 149, 150, 151, 152, 153, 154, 155, 156, 157, 158, 159, 160, 161, 162, 163, 164, 165, 166, 167, 168, 169, 170, 171, 172, 173, 174, 175, 176, 177, 178, 179, 180, 74, 75, 76, 77, 79, 80, 81, 236, 237, 238, 239, 240, 241, 242, 243, 244, 245, 246, 247] (by decide +kernel) (by decide +kernel)) (goodIn_sub (fun _ h => List.mem_cons_of_mem _ (List.mem_append_left _ (List.mem_append_right _ h))) (by decide +kernel))) (goodIn_sub (fun _ h => List.mem_cons_of_mem _ (List.mem_append_right _ h)) (by decide +kernel))
set_option maxRecDepth 20000 in
theorem gX4_actFunction_X4_turn : GoodIn wsX4_actFunction (wsV RX4 168 RX4 yX4_turn wsX4_turn) := goodIn_app (goodIn_of _ (by decide +kernel)) ggX4_actFunction_X4_turn
set_option maxRecDepth 20000 in
theorem ggX4_actFunction_X4_thick_ : GoodIn wsX4_actFunction wsX4_thick_ := goodIn_ca (goodIn_ca (goodIn_r _ [184, 19, 20, 1, 2, 3, 4, 5, 6, 7, 8, 9, 10, 11, 12, 13, 14, 185, 186, 187, 188, 86, 87, 88, 89, 189, 190, 191, 39, 192, 43, 44, 45, 46, 47, 48, 49, 193, 194, 195, 41, 42, 196, 197, 198, 199, 200, 201, 202, 203, 98, 99, 100, 101, 102, 103, 104, 105, 106, 107, 108, 68, 69, 70, 65, 71, 67, 72, 26, 27, 28, 73, 30, 31, 74, 75, 76, 77, 78, 63, 64, 66, 79, 80, 81, 236, 237, 238, 239, 240, 241, 242, 243, 244, 245, 246, 248, 247] (by decide +kernel) (by decide +kernel)) (goodIn_sub (fun _ h => List.mem_cons_of_mem _ (List.mem_append_right _ h)) (by decide +kernel))) (goodIn_sub (fun _ h => List.mem_cons_of_mem _ (List.mem_append_left _ (List.mem_append_right _ h))) (by decide +kernel))
set_option maxRecDepth 20000 in
theorem gX4_actFunction_X4_thick_ : GoodIn wsX4_actFunction (wsV RX4 154 RX4 yX4_thick_ wsX4_thick_) := goodIn_app (goodIn_of _ (by decide +kernel)) ggX4_actFunction_X4_thick_
set_option maxRecDepth 20000 in
theorem ggX4_actFunction_X4_where : GoodIn wsX4_actFunction wsX4_where := goodIn_ca (goodIn_r _ [207, 208, 19, 86, 20, 1, 2, 3, 4, 5, 6, 7, 8, 9, 10, 11, 12, 13, 14, 209, 210, 211, 212, 32, 213, 214, 215, 216, 217, 218, 219, 220, 221, 222, 39, 223, 94, 95, 96, 97, 47, 48, 98, 99, 100, 101, 102, 43, 44, 45, 46, 49, 62, 63, 64, 65, 66, 67, 224, 225, 226, 106, 227, 108, 228, 229, 230, 231, 232, 104, 105, 107, 233, 234, 235, 236, 237, 238, 239, 240, 241, 242, 243, 244, 245, 246, 247, 248] (by decide +kernel) (by decide +kernel)) (goodIn_sub (fun _ h => List.mem_cons_of_mem _ (List.mem_append_right _ h)) (by decide +kernel))
set_option maxRecDepth 20000 in
theorem gX4_actFunction_X4_where : GoodIn wsX4_actFunction (wsV RX4 170 RX4 yX4_where wsX4_where) := goodIn_app (goodIn_of _ (by decide +kernel)) ggX4_actFunction_X4_where
theorem dX4_actFunction_0 : decode cX4_actFunction 0 = .ok (.aload_n 0, 1) := by decide +kernel
theorem dX4_actFunction_1 : decode cX4_actFunction 1 = .ok (.bipush 8, 2) := by decide +kernel
theorem dX4_actFunction_3 : decode cX4_actFunction 3 = .ok (.invokevirtual 62, 3) := by decide +kernel
theorem dX4_actFunction_6 : decode cX4_actFunction 6 = .ok (.tableswitch 67 0 6 #[42, 42, 47, 52, 57, 57, 62], 42) := by decide +kernel
theorem dX4_actFunction_48 : decode cX4_actFunction 48 = .ok (.aload_n 0, 1) := by decide +kernel
theorem dX4_actFunction_49 : decode cX4_actFunction 49 = .ok (.invokevirtual 152, 3) := by decide +kernel
theorem dX4_actFunction_52 : decode cX4_actFunction 52 = .ok (.ireturn, 1) := by decide +kernel
theorem dX4_actFunction_53 : decode cX4_actFunction 53 = .ok (.aload_n 0, 1) := by decide +kernel
theorem dX4_actFunction_54 : decode cX4_actFunction 54 = .ok (.invokevirtual 164, 3) := by decide +kernel
theorem dX4_actFunction_57 : decode cX4_actFunction 57 = .ok (.ireturn, 1) := by decide +kernel
theorem dX4_actFunction_58 : decode cX4_actFunction 58 = .ok (.aload_n 0, 1) := by decide +kernel
theorem dX4_actFunction_59 : decode cX4_actFunction 59 = .ok (.invokevirtual 166, 3) := by decide +kernel
theorem dX4_actFunction_62 : decode cX4_actFunction 62 = .ok (.ireturn, 1) := by decide +kernel
theorem dX4_actFunction_63 : decode cX4_actFunction 63 = .ok (.aload_n 0, 1) := by decide +kernel
theorem dX4_actFunction_64 : decode cX4_actFunction 64 = .ok (.invokevirtual 168, 3) := by decide +kernel
theorem dX4_actFunction_67 : decode cX4_actFunction 67 = .ok (.ireturn, 1) := by decide +kernel
theorem dX4_actFunction_68 : decode cX4_actFunction 68 = .ok (.aload_n 0, 1) := by decide +kernel
theorem dX4_actFunction_69 : decode cX4_actFunction 69 = .ok (.invokevirtual 154, 3) := by decide +kernel
theorem dX4_actFunction_72 : decode cX4_actFunction 72 = .ok (.ireturn, 1) := by decide +kernel
theorem dX4_actFunction_73 : decode cX4_actFunction 73 = .ok (.aload_n 0, 1) := by decide +kernel
theorem dX4_actFunction_74 : decode cX4_actFunction 74 = .ok (.invokevirtual 170, 3) := by decide +kernel
theorem dX4_actFunction_77 : decode cX4_actFunction 77 = .ok (.ireturn, 1) := by decide +kernel
theorem dJ9_abs_0f7a4_0 : decode cJ9_abs_0f7a4 0 = .ok (.iload_n 0, 1) := by decide +kernel
theorem dJ9_abs_0f7a4_1 : decode cJ9_abs_0f7a4 1 = .ok (.ifCond .ge 8, 3) := by decide +kernel
theorem dJ9_abs_0f7a4_4 : decode cJ9_abs_0f7a4 4 = .ok (.iload_n 0, 1) := by decide +kernel
theorem dJ9_abs_0f7a4_5 : decode cJ9_abs_0f7a4 5 = .ok (.ineg, 1) := by decide +kernel
theorem dJ9_abs_0f7a4_6 : decode cJ9_abs_0f7a4 6 = .ok (.goto 4, 3) := by decide +kernel
theorem dJ9_abs_0f7a4_9 : decode cJ9_abs_0f7a4 9 = .ok (.iload_n 0, 1) := by decide +kernel
theorem dJ9_abs_0f7a4_10 : decode cJ9_abs_0f7a4 10 = .ok (.ireturn, 1) := by decide +kernel
theorem dJ9_max_7cf53_0 : decode cJ9_max_7cf53 0 = .ok (.iload_n 0, 1) := by decide +kernel
theorem dJ9_max_7cf53_1 : decode cJ9_max_7cf53 1 = .ok (.iload_n 1, 1) := by decide +kernel
theorem dJ9_max_7cf53_2 : decode cJ9_max_7cf53 2 = .ok (.if_icmp .lt 7, 3) := by decide +kernel
theorem dJ9_max_7cf53_5 : decode cJ9_max_7cf53 5 = .ok (.iload_n 0, 1) := by decide +kernel
theorem dJ9_max_7cf53_6 : decode cJ9_max_7cf53 6 = .ok (.goto 4, 3) := by decide +kernel
theorem dJ9_max_7cf53_9 : decode cJ9_max_7cf53 9 = .ok (.iload_n 1, 1) := by decide +kernel
theorem dJ9_max_7cf53_10 : decode cJ9_max_7cf53 10 = .ok (.ireturn, 1) := by decide +kernel
theorem dJ9_min_7cf53_0 : decode cJ9_min_7cf53 0 = .ok (.iload_n 0, 1) := by decide +kernel
theorem dJ9_min_7cf53_1 : decode cJ9_min_7cf53 1 = .ok (.iload_n 1, 1) := by decide +kernel
theorem dJ9_min_7cf53_2 : decode cJ9_min_7cf53 2 = .ok (.if_icmp .gt 7, 3) := by decide +kernel
theorem dJ9_min_7cf53_5 : decode cJ9_min_7cf53 5 = .ok (.iload_n 0, 1) := by decide +kernel
theorem dJ9_min_7cf53_6 : decode cJ9_min_7cf53 6 = .ok (.goto 4, 3) := by decide +kernel
theorem dJ9_min_7cf53_9 : decode cJ9_min_7cf53 9 = .ok (.iload_n 1, 1) := by decide +kernel
theorem dJ9_min_7cf53_10 : decode cJ9_min_7cf53 10 = .ok (.ireturn, 1) := by decide +kernel
