theorem dX4_init_0 : decode cX4_init 0 = .ok (.aload_n 0, 1) := by decide +kernel
theorem dX4_init_1 : decode cX4_init 1 = .ok (.invokespecial 1, 3) := by decide +kernel
theorem dX4_init_4 : decode cX4_init 4 = .ok (.aload_n 0, 1) := by decide +kernel
theorem dX4_init_5 : decode cX4_init 5 = .ok (.new 7, 3) := by decide +kernel
theorem dX4_init_8 : decode cX4_init 8 = .ok (.dup, 1) := by decide +kernel
theorem dX4_init_9 : decode cX4_init 9 = .ok (.invokespecial 9, 3) := by decide +kernel
theorem dX4_init_12 : decode cX4_init 12 = .ok (.putfield 10, 3) := by decide +kernel
theorem dX4_init_15 : decode cX4_init 15 = .ok (.aload_n 0, 1) := by decide +kernel
theorem dX4_init_16 : decode cX4_init 16 = .ok (.bipush 8, 2) := by decide +kernel
theorem dX4_init_18 : decode cX4_init 18 = .ok (.iconst 0, 1) := by decide +kernel
theorem dX4_init_19 : decode cX4_init 19 = .ok (.multianewarray 16 2, 4) := by decide +kernel
theorem dX4_init_23 : decode cX4_init 23 = .ok (.putfield 18, 3) := by decide +kernel
theorem dX4_init_26 : decode cX4_init 26 = .ok (.aload_n 0, 1) := by decide +kernel
theorem dX4_init_27 : decode cX4_init 27 = .ok (.iconst 5, 1) := by decide +kernel
theorem dX4_init_28 : decode cX4_init 28 = .ok (.sipush 201, 3) := by decide +kernel
theorem dX4_init_31 : decode cX4_init 31 = .ok (.multianewarray 21 2, 4) := by decide +kernel
theorem dX4_init_35 : decode cX4_init 35 = .ok (.putfield 23, 3) := by decide +kernel
theorem dX4_init_38 : decode cX4_init 38 = .ok (.aload_n 0, 1) := by decide +kernel
theorem dX4_init_39 : decode cX4_init 39 = .ok (.aload_n 1, 1) := by decide +kernel
theorem dX4_init_40 : decode cX4_init 40 = .ok (.putfield 26, 3) := by decide +kernel
theorem dX4_init_43 : decode cX4_init 43 = .ok (.aload_n 0, 1) := by decide +kernel
theorem dX4_init_44 : decode cX4_init 44 = .ok (.iload_n 2, 1) := by decide +kernel
theorem dX4_init_45 : decode cX4_init 45 = .ok (.putfield 30, 3) := by decide +kernel
theorem dX4_init_48 : decode cX4_init 48 = .ok (.return_, 1) := by decide +kernel
set_option maxRecDepth 20000 in
theorem ggX4_draw_L_cell : GoodIn wsX4_draw wsL_cell := goodIn_r _ [5, 6] (by decide +kernel) (by decide +kernel)
set_option maxRecDepth 20000 in
theorem gX4_draw_L_cell_n34 : GoodIn wsX4_draw (wsL_cell) := ggX4_draw_L_cell
set_option maxRecDepth 20000 in
theorem ggX4_draw_L_below : GoodIn wsX4_draw wsL_below := goodIn_r _ [8, 9] (by decide +kernel) (by decide +kernel)
set_option maxRecDepth 20000 in
theorem gX4_draw_L_below_n40 : GoodIn wsX4_draw (wsL_below) := ggX4_draw_L_below
theorem dX4_draw_0 : decode cX4_draw 0 = .ok (.aload_n 0, 1) := by decide +kernel
theorem dX4_draw_1 : decode cX4_draw 1 = .ok (.getfield 26, 3) := by decide +kernel
theorem dX4_draw_4 : decode cX4_draw 4 = .ok (.aload_n 0, 1) := by decide +kernel
theorem dX4_draw_5 : decode cX4_draw 5 = .ok (.getfield 30, 3) := by decide +kernel
theorem dX4_draw_8 : decode cX4_draw 8 = .ok (.bipush 24, 2) := by decide +kernel
theorem dX4_draw_10 : decode cX4_draw 10 = .ok (.irem, 1) := by decide +kernel
theorem dX4_draw_11 : decode cX4_draw 11 = .ok (.invokestatic 34, 3) := by decide +kernel
theorem dX4_draw_14 : decode cX4_draw 14 = .ok (.aload_n 0, 1) := by decide +kernel
theorem dX4_draw_15 : decode cX4_draw 15 = .ok (.getfield 30, 3) := by decide +kernel
theorem dX4_draw_18 : decode cX4_draw 18 = .ok (.bipush 24, 2) := by decide +kernel
theorem dX4_draw_20 : decode cX4_draw 20 = .ok (.idiv, 1) := by decide +kernel
theorem dX4_draw_21 : decode cX4_draw 21 = .ok (.bipush 8, 2) := by decide +kernel
theorem dX4_draw_23 : decode cX4_draw 23 = .ok (.irem, 1) := by decide +kernel
theorem dX4_draw_24 : decode cX4_draw 24 = .ok (.ishr, 1) := by decide +kernel
theorem dX4_draw_25 : decode cX4_draw 25 = .ok (.sipush 157, 3) := by decide +kernel
theorem dX4_draw_28 : decode cX4_draw 28 = .ok (.aload_n 0, 1) := by decide +kernel
theorem dX4_draw_29 : decode cX4_draw 29 = .ok (.getfield 30, 3) := by decide +kernel
theorem dX4_draw_32 : decode cX4_draw 32 = .ok (.imul, 1) := by decide +kernel
theorem dX4_draw_33 : decode cX4_draw 33 = .ok (.iadd, 1) := by decide +kernel
theorem dX4_draw_34 : decode cX4_draw 34 = .ok (.iload_n 1, 1) := by decide +kernel
theorem dX4_draw_35 : decode cX4_draw 35 = .ok (.invokestatic 40, 3) := by decide +kernel
theorem dX4_draw_38 : decode cX4_draw 38 = .ok (.istore_n 2, 1) := by decide +kernel
theorem dX4_draw_39 : decode cX4_draw 39 = .ok (.aload_n 0, 1) := by decide +kernel
theorem dX4_draw_40 : decode cX4_draw 40 = .ok (.dup, 1) := by decide +kernel
theorem dX4_draw_41 : decode cX4_draw 41 = .ok (.getfield 30, 3) := by decide +kernel
theorem dX4_draw_44 : decode cX4_draw 44 = .ok (.iconst 1, 1) := by decide +kernel
theorem dX4_draw_45 : decode cX4_draw 45 = .ok (.iadd, 1) := by decide +kernel
theorem dX4_draw_46 : decode cX4_draw 46 = .ok (.putfield 30, 3) := by decide +kernel
theorem dX4_draw_49 : decode cX4_draw 49 = .ok (.iload_n 2, 1) := by decide +kernel
theorem dX4_draw_50 : decode cX4_draw 50 = .ok (.ireturn, 1) := by decide +kernel
theorem dX4_with_0 : decode cX4_with 0 = .ok (.aload_n 0, 1) := by decide +kernel
theorem dX4_with_1 : decode cX4_with 1 = .ok (.arraylength, 1) := by decide +kernel
theorem dX4_with_2 : decode cX4_with 2 = .ok (.iconst 1, 1) := by decide +kernel
theorem dX4_with_3 : decode cX4_with 3 = .ok (.iadd, 1) := by decide +kernel
theorem dX4_with_4 : decode cX4_with 4 = .ok (.anewarray 44, 3) := by decide +kernel
theorem dX4_with_7 : decode cX4_with 7 = .ok (.astore_n 2, 1) := by decide +kernel
theorem dX4_with_8 : decode cX4_with 8 = .ok (.aload_n 0, 1) := by decide +kernel
theorem dX4_with_9 : decode cX4_with 9 = .ok (.iconst 0, 1) := by decide +kernel
theorem dX4_with_10 : decode cX4_with 10 = .ok (.aload_n 2, 1) := by decide +kernel
theorem dX4_with_11 : decode cX4_with 11 = .ok (.iconst 0, 1) := by decide +kernel
theorem dX4_with_12 : decode cX4_with 12 = .ok (.aload_n 0, 1) := by decide +kernel
theorem dX4_with_13 : decode cX4_with 13 = .ok (.arraylength, 1) := by decide +kernel
theorem dX4_with_14 : decode cX4_with 14 = .ok (.invokestatic 45, 3) := by decide +kernel
theorem dX4_with_17 : decode cX4_with 17 = .ok (.aload_n 2, 1) := by decide +kernel
theorem dX4_with_18 : decode cX4_with 18 = .ok (.aload_n 0, 1) := by decide +kernel
theorem dX4_with_19 : decode cX4_with 19 = .ok (.arraylength, 1) := by decide +kernel
theorem dX4_with_20 : decode cX4_with 20 = .ok (.aload_n 1, 1) := by decide +kernel
theorem dX4_with_21 : decode cX4_with 21 = .ok (.aastore, 1) := by decide +kernel
theorem dX4_with_22 : decode cX4_with 22 = .ok (.aload_n 2, 1) := by decide +kernel
theorem dX4_with_23 : decode cX4_with 23 = .ok (.areturn, 1) := by decide +kernel
theorem dX4_isIn_0 : decode cX4_isIn 0 = .ok (.aload_n 0, 1) := by decide +kernel
theorem dX4_isIn_1 : decode cX4_isIn 1 = .ok (.astore_n 2, 1) := by decide +kernel
theorem dX4_isIn_2 : decode cX4_isIn 2 = .ok (.aload_n 2, 1) := by decide +kernel
theorem dX4_isIn_3 : decode cX4_isIn 3 = .ok (.arraylength, 1) := by decide +kernel
theorem dX4_isIn_4 : decode cX4_isIn 4 = .ok (.istore_n 3, 1) := by decide +kernel
theorem dX4_isIn_5 : decode cX4_isIn 5 = .ok (.iconst 0, 1) := by decide +kernel
theorem dX4_isIn_6 : decode cX4_isIn 6 = .ok (.istore 4, 2) := by decide +kernel
theorem dX4_isIn_8 : decode cX4_isIn 8 = .ok (.iload 4, 2) := by decide +kernel
theorem dX4_isIn_10 : decode cX4_isIn 10 = .ok (.iload_n 3, 1) := by decide +kernel
theorem dX4_isIn_11 : decode cX4_isIn 11 = .ok (.if_icmp .ge 33, 3) := by decide +kernel
theorem dX4_isIn_14 : decode cX4_isIn 14 = .ok (.aload_n 2, 1) := by decide +kernel
theorem dX4_isIn_15 : decode cX4_isIn 15 = .ok (.iload 4, 2) := by decide +kernel
theorem dX4_isIn_17 : decode cX4_isIn 17 = .ok (.aaload, 1) := by decide +kernel
theorem dX4_isIn_18 : decode cX4_isIn 18 = .ok (.astore 5, 2) := by decide +kernel
theorem dX4_isIn_20 : decode cX4_isIn 20 = .ok (.iload_n 1, 1) := by decide +kernel
theorem dX4_isIn_21 : decode cX4_isIn 21 = .ok (.aload 5, 2) := by decide +kernel
theorem dX4_isIn_23 : decode cX4_isIn 23 = .ok (.iconst 0, 1) := by decide +kernel
theorem dX4_isIn_24 : decode cX4_isIn 24 = .ok (.iaload, 1) := by decide +kernel
theorem dX4_isIn_25 : decode cX4_isIn 25 = .ok (.if_icmp .lt 13, 3) := by decide +kernel
theorem dX4_isIn_28 : decode cX4_isIn 28 = .ok (.iload_n 1, 1) := by decide +kernel
theorem dX4_isIn_29 : decode cX4_isIn 29 = .ok (.aload 5, 2) := by decide +kernel
theorem dX4_isIn_31 : decode cX4_isIn 31 = .ok (.iconst 1, 1) := by decide +kernel
theorem dX4_isIn_32 : decode cX4_isIn 32 = .ok (.iaload, 1) := by decide +kernel
theorem dX4_isIn_33 : decode cX4_isIn 33 = .ok (.if_icmp .gt 5, 3) := by decide +kernel
theorem dX4_isIn_36 : decode cX4_isIn 36 = .ok (.iconst 1, 1) := by decide +kernel
theorem dX4_isIn_37 : decode cX4_isIn 37 = .ok (.ireturn, 1) := by decide +kernel
theorem dX4_isIn_38 : decode cX4_isIn 38 = .ok (.iinc 4 1, 3) := by decide +kernel
theorem dX4_isIn_41 : decode cX4_isIn 41 = .ok (.goto (-33), 3) := by decide +kernel
theorem dX4_isIn_44 : decode cX4_isIn 44 = .ok (.iconst 0, 1) := by decide +kernel
theorem dX4_isIn_45 : decode cX4_isIn 45 = .ok (.ireturn, 1) := by decide +kernel
set_option maxRecDepth 20000 in
theorem ggX4_spans_X4_with : GoodIn wsX4_spans wsX4_with := goodIn_r _ [6, 1, 7, 8, 9, 10] (by decide +kernel) (by decide +kernel)
set_option maxRecDepth 20000 in
theorem gX4_spans_X4_with : GoodIn wsX4_spans (va_wsS RX4 51 yX4_with wsX4_with) := goodIn_app (goodIn_of _ (by decide +kernel)) ggX4_spans_X4_with
theorem dX4_spans_0 : decode cX4_spans 0 = .ok (.iconst 0, 1) := by decide +kernel
theorem dX4_spans_1 : decode cX4_spans 1 = .ok (.anewarray 44, 3) := by decide +kernel
theorem dX4_spans_4 : decode cX4_spans 4 = .ok (.astore_n 1, 1) := by decide +kernel
theorem dX4_spans_5 : decode cX4_spans 5 = .ok (.iconst 0, 1) := by decide +kernel
theorem dX4_spans_6 : decode cX4_spans 6 = .ok (.istore_n 2, 1) := by decide +kernel
theorem dX4_spans_7 : decode cX4_spans 7 = .ok (.iload_n 2, 1) := by decide +kernel
theorem dX4_spans_8 : decode cX4_spans 8 = .ok (.sipush 200, 3) := by decide +kernel
theorem dX4_spans_11 : decode cX4_spans 11 = .ok (.if_icmp .gt 60, 3) := by decide +kernel
theorem dX4_spans_14 : decode cX4_spans 14 = .ok (.aload_n 0, 1) := by decide +kernel
theorem dX4_spans_15 : decode cX4_spans 15 = .ok (.iload_n 2, 1) := by decide +kernel
theorem dX4_spans_16 : decode cX4_spans 16 = .ok (.baload, 1) := by decide +kernel
theorem dX4_spans_17 : decode cX4_spans 17 = .ok (.ifCond .ne 6, 3) := by decide +kernel
theorem dX4_spans_20 : decode cX4_spans 20 = .ok (.goto 45, 3) := by decide +kernel
theorem dX4_spans_23 : decode cX4_spans 23 = .ok (.iload_n 2, 1) := by decide +kernel
theorem dX4_spans_24 : decode cX4_spans 24 = .ok (.ifCond .le 23, 3) := by decide +kernel
theorem dX4_spans_27 : decode cX4_spans 27 = .ok (.aload_n 0, 1) := by decide +kernel
theorem dX4_spans_28 : decode cX4_spans 28 = .ok (.iload_n 2, 1) := by decide +kernel
theorem dX4_spans_29 : decode cX4_spans 29 = .ok (.iconst 1, 1) := by decide +kernel
theorem dX4_spans_30 : decode cX4_spans 30 = .ok (.isub, 1) := by decide +kernel
theorem dX4_spans_31 : decode cX4_spans 31 = .ok (.baload, 1) := by decide +kernel
theorem dX4_spans_32 : decode cX4_spans 32 = .ok (.ifCond .eq 15, 3) := by decide +kernel
theorem dX4_spans_35 : decode cX4_spans 35 = .ok (.aload_n 1, 1) := by decide +kernel
theorem dX4_spans_36 : decode cX4_spans 36 = .ok (.aload_n 1, 1) := by decide +kernel
theorem dX4_spans_37 : decode cX4_spans 37 = .ok (.arraylength, 1) := by decide +kernel
theorem dX4_spans_38 : decode cX4_spans 38 = .ok (.iconst 1, 1) := by decide +kernel
theorem dX4_spans_39 : decode cX4_spans 39 = .ok (.isub, 1) := by decide +kernel
theorem dX4_spans_40 : decode cX4_spans 40 = .ok (.aaload, 1) := by decide +kernel
theorem dX4_spans_41 : decode cX4_spans 41 = .ok (.iconst 1, 1) := by decide +kernel
theorem dX4_spans_42 : decode cX4_spans 42 = .ok (.iload_n 2, 1) := by decide +kernel
theorem dX4_spans_43 : decode cX4_spans 43 = .ok (.iastore, 1) := by decide +kernel
theorem dX4_spans_44 : decode cX4_spans 44 = .ok (.goto 21, 3) := by decide +kernel
theorem dX4_spans_47 : decode cX4_spans 47 = .ok (.iconst 2, 1) := by decide +kernel
theorem dX4_spans_48 : decode cX4_spans 48 = .ok (.newarray .int, 2) := by decide +kernel
theorem dX4_spans_50 : decode cX4_spans 50 = .ok (.dup, 1) := by decide +kernel
theorem dX4_spans_51 : decode cX4_spans 51 = .ok (.iconst 0, 1) := by decide +kernel
theorem dX4_spans_52 : decode cX4_spans 52 = .ok (.iload_n 2, 1) := by decide +kernel
theorem dX4_spans_53 : decode cX4_spans 53 = .ok (.iastore, 1) := by decide +kernel
theorem dX4_spans_54 : decode cX4_spans 54 = .ok (.dup, 1) := by decide +kernel
theorem dX4_spans_55 : decode cX4_spans 55 = .ok (.iconst 1, 1) := by decide +kernel
theorem dX4_spans_56 : decode cX4_spans 56 = .ok (.iload_n 2, 1) := by decide +kernel
theorem dX4_spans_57 : decode cX4_spans 57 = .ok (.iastore, 1) := by decide +kernel
theorem dX4_spans_58 : decode cX4_spans 58 = .ok (.astore_n 3, 1) := by decide +kernel
theorem dX4_spans_59 : decode cX4_spans 59 = .ok (.aload_n 1, 1) := by decide +kernel
theorem dX4_spans_60 : decode cX4_spans 60 = .ok (.aload_n 3, 1) := by decide +kernel
theorem dX4_spans_61 : decode cX4_spans 61 = .ok (.invokestatic 51, 3) := by decide +kernel
theorem dX4_spans_64 : decode cX4_spans 64 = .ok (.astore_n 1, 1) := by decide +kernel
theorem dX4_spans_65 : decode cX4_spans 65 = .ok (.iinc 2 1, 3) := by decide +kernel
theorem dX4_spans_68 : decode cX4_spans 68 = .ok (.goto (-61), 3) := by decide +kernel
theorem dX4_spans_71 : decode cX4_spans 71 = .ok (.aload_n 1, 1) := by decide +kernel
theorem dX4_spans_72 : decode cX4_spans 72 = .ok (.areturn, 1) := by decide +kernel
theorem dX4_row_0 : decode cX4_row 0 = .ok (.sipush 201, 3) := by decide +kernel
theorem dX4_row_3 : decode cX4_row 3 = .ok (.newarray .boolean, 2) := by decide +kernel
theorem dX4_row_5 : decode cX4_row 5 = .ok (.astore_n 1, 1) := by decide +kernel
theorem dX4_row_6 : decode cX4_row 6 = .ok (.aload_n 0, 1) := by decide +kernel
theorem dX4_row_7 : decode cX4_row 7 = .ok (.astore_n 2, 1) := by decide +kernel
theorem dX4_row_8 : decode cX4_row 8 = .ok (.aload_n 2, 1) := by decide +kernel
theorem dX4_row_9 : decode cX4_row 9 = .ok (.arraylength, 1) := by decide +kernel
theorem dX4_row_10 : decode cX4_row 10 = .ok (.istore_n 3, 1) := by decide +kernel
theorem dX4_row_11 : decode cX4_row 11 = .ok (.iconst 0, 1) := by decide +kernel
theorem dX4_row_12 : decode cX4_row 12 = .ok (.istore 4, 2) := by decide +kernel
theorem dX4_row_14 : decode cX4_row 14 = .ok (.iload 4, 2) := by decide +kernel
theorem dX4_row_16 : decode cX4_row 16 = .ok (.iload_n 3, 1) := by decide +kernel
theorem dX4_row_17 : decode cX4_row 17 = .ok (.if_icmp .ge 41, 3) := by decide +kernel
theorem dX4_row_20 : decode cX4_row 20 = .ok (.aload_n 2, 1) := by decide +kernel
theorem dX4_row_21 : decode cX4_row 21 = .ok (.iload 4, 2) := by decide +kernel
theorem dX4_row_23 : decode cX4_row 23 = .ok (.aaload, 1) := by decide +kernel
theorem dX4_row_24 : decode cX4_row 24 = .ok (.astore 5, 2) := by decide +kernel
theorem dX4_row_26 : decode cX4_row 26 = .ok (.aload 5, 2) := by decide +kernel
theorem dX4_row_28 : decode cX4_row 28 = .ok (.iconst 0, 1) := by decide +kernel
theorem dX4_row_29 : decode cX4_row 29 = .ok (.iaload, 1) := by decide +kernel
theorem dX4_row_30 : decode cX4_row 30 = .ok (.istore 6, 2) := by decide +kernel
theorem dX4_row_32 : decode cX4_row 32 = .ok (.iload 6, 2) := by decide +kernel
theorem dX4_row_34 : decode cX4_row 34 = .ok (.aload 5, 2) := by decide +kernel
theorem dX4_row_36 : decode cX4_row 36 = .ok (.iconst 1, 1) := by decide +kernel
theorem dX4_row_37 : decode cX4_row 37 = .ok (.iaload, 1) := by decide +kernel
theorem dX4_row_38 : decode cX4_row 38 = .ok (.if_icmp .gt 14, 3) := by decide +kernel
theorem dX4_row_41 : decode cX4_row 41 = .ok (.aload_n 1, 1) := by decide +kernel
theorem dX4_row_42 : decode cX4_row 42 = .ok (.iload 6, 2) := by decide +kernel
theorem dX4_row_44 : decode cX4_row 44 = .ok (.iconst 1, 1) := by decide +kernel
theorem dX4_row_45 : decode cX4_row 45 = .ok (.bastore, 1) := by decide +kernel
theorem dX4_row_46 : decode cX4_row 46 = .ok (.iinc 6 1, 3) := by decide +kernel
theorem dX4_row_49 : decode cX4_row 49 = .ok (.goto (-17), 3) := by decide +kernel
theorem dX4_row_52 : decode cX4_row 52 = .ok (.iinc 4 1, 3) := by decide +kernel
theorem dX4_row_55 : decode cX4_row 55 = .ok (.goto (-41), 3) := by decide +kernel
theorem dX4_row_58 : decode cX4_row 58 = .ok (.aload_n 1, 1) := by decide +kernel
theorem dX4_row_59 : decode cX4_row 59 = .ok (.areturn, 1) := by decide +kernel
theorem dX4_count_0 : decode cX4_count 0 = .ok (.iconst 0, 1) := by decide +kernel
theorem dX4_count_1 : decode cX4_count 1 = .ok (.istore_n 1, 1) := by decide +kernel
theorem dX4_count_2 : decode cX4_count 2 = .ok (.aload_n 0, 1) := by decide +kernel
theorem dX4_count_3 : decode cX4_count 3 = .ok (.astore_n 2, 1) := by decide +kernel
theorem dX4_count_4 : decode cX4_count 4 = .ok (.aload_n 2, 1) := by decide +kernel
theorem dX4_count_5 : decode cX4_count 5 = .ok (.arraylength, 1) := by decide +kernel
theorem dX4_count_6 : decode cX4_count 6 = .ok (.istore_n 3, 1) := by decide +kernel
theorem dX4_count_7 : decode cX4_count 7 = .ok (.iconst 0, 1) := by decide +kernel
theorem dX4_count_8 : decode cX4_count 8 = .ok (.istore 4, 2) := by decide +kernel
theorem dX4_count_10 : decode cX4_count 10 = .ok (.iload 4, 2) := by decide +kernel
theorem dX4_count_12 : decode cX4_count 12 = .ok (.iload_n 3, 1) := by decide +kernel
theorem dX4_count_13 : decode cX4_count 13 = .ok (.if_icmp .ge 29, 3) := by decide +kernel
theorem dX4_count_16 : decode cX4_count 16 = .ok (.aload_n 2, 1) := by decide +kernel
theorem dX4_count_17 : decode cX4_count 17 = .ok (.iload 4, 2) := by decide +kernel
theorem dX4_count_19 : decode cX4_count 19 = .ok (.aaload, 1) := by decide +kernel
theorem dX4_count_20 : decode cX4_count 20 = .ok (.astore 5, 2) := by decide +kernel
theorem dX4_count_22 : decode cX4_count 22 = .ok (.iload_n 1, 1) := by decide +kernel
theorem dX4_count_23 : decode cX4_count 23 = .ok (.aload 5, 2) := by decide +kernel
theorem dX4_count_25 : decode cX4_count 25 = .ok (.iconst 1, 1) := by decide +kernel
theorem dX4_count_26 : decode cX4_count 26 = .ok (.iaload, 1) := by decide +kernel
theorem dX4_count_27 : decode cX4_count 27 = .ok (.aload 5, 2) := by decide +kernel
theorem dX4_count_29 : decode cX4_count 29 = .ok (.iconst 0, 1) := by decide +kernel
theorem dX4_count_30 : decode cX4_count 30 = .ok (.iaload, 1) := by decide +kernel
theorem dX4_count_31 : decode cX4_count 31 = .ok (.isub, 1) := by decide +kernel
theorem dX4_count_32 : decode cX4_count 32 = .ok (.iconst 1, 1) := by decide +kernel
theorem dX4_count_33 : decode cX4_count 33 = .ok (.iadd, 1) := by decide +kernel
theorem dX4_count_34 : decode cX4_count 34 = .ok (.iadd, 1) := by decide +kernel
theorem dX4_count_35 : decode cX4_count 35 = .ok (.istore_n 1, 1) := by decide +kernel
theorem dX4_count_36 : decode cX4_count 36 = .ok (.iinc 4 1, 3) := by decide +kernel
theorem dX4_count_39 : decode cX4_count 39 = .ok (.goto (-29), 3) := by decide +kernel
theorem dX4_count_42 : decode cX4_count 42 = .ok (.iload_n 1, 1) := by decide +kernel
theorem dX4_count_43 : decode cX4_count 43 = .ok (.ireturn, 1) := by decide +kernel
theorem dX4_begin_0 : decode cX4_begin 0 = .ok (.aload_n 0, 1) := by decide +kernel
theorem dX4_begin_1 : decode cX4_begin 1 = .ok (.iconst 0, 1) := by decide +kernel
theorem dX4_begin_2 : decode cX4_begin 2 = .ok (.iaload, 1) := by decide +kernel
theorem dX4_begin_3 : decode cX4_begin 3 = .ok (.iconst 2, 1) := by decide +kernel
theorem dX4_begin_4 : decode cX4_begin 4 = .ok (.idiv, 1) := by decide +kernel
theorem dX4_begin_5 : decode cX4_begin 5 = .ok (.ireturn, 1) := by decide +kernel
theorem dX4_end_0 : decode cX4_end 0 = .ok (.aload_n 0, 1) := by decide +kernel
theorem dX4_end_1 : decode cX4_end 1 = .ok (.iconst 1, 1) := by decide +kernel
theorem dX4_end_2 : decode cX4_end 2 = .ok (.iaload, 1) := by decide +kernel
theorem dX4_end_3 : decode cX4_end 3 = .ok (.iconst 2, 1) := by decide +kernel
theorem dX4_end_4 : decode cX4_end 4 = .ok (.irem, 1) := by decide +kernel
theorem dX4_end_5 : decode cX4_end 5 = .ok (.ifCond .ne 11, 3) := by decide +kernel
theorem dX4_end_8 : decode cX4_end 8 = .ok (.aload_n 0, 1) := by decide +kernel
theorem dX4_end_9 : decode cX4_end 9 = .ok (.iconst 1, 1) := by decide +kernel
theorem dX4_end_10 : decode cX4_end 10 = .ok (.iaload, 1) := by decide +kernel
theorem dX4_end_11 : decode cX4_end 11 = .ok (.iconst 2, 1) := by decide +kernel
theorem dX4_end_12 : decode cX4_end 12 = .ok (.idiv, 1) := by decide +kernel
theorem dX4_end_13 : decode cX4_end 13 = .ok (.goto 10, 3) := by decide +kernel
theorem dX4_end_16 : decode cX4_end 16 = .ok (.aload_n 0, 1) := by decide +kernel
theorem dX4_end_17 : decode cX4_end 17 = .ok (.iconst 1, 1) := by decide +kernel
theorem dX4_end_18 : decode cX4_end 18 = .ok (.iaload, 1) := by decide +kernel
theorem dX4_end_19 : decode cX4_end 19 = .ok (.iconst 2, 1) := by decide +kernel
theorem dX4_end_20 : decode cX4_end 20 = .ok (.idiv, 1) := by decide +kernel
theorem dX4_end_21 : decode cX4_end 21 = .ok (.iconst 1, 1) := by decide +kernel
theorem dX4_end_22 : decode cX4_end 22 = .ok (.iadd, 1) := by decide +kernel
theorem dX4_end_23 : decode cX4_end 23 = .ok (.ireturn, 1) := by decide +kernel
set_option maxRecDepth 20000 in
theorem ggX4_gaps_X4_with : GoodIn wsX4_gaps wsX4_with := goodIn_r _ [6, 1, 7, 8, 9, 10] (by decide +kernel) (by decide +kernel)
set_option maxRecDepth 20000 in
theorem gX4_gaps_X4_with : GoodIn wsX4_gaps (va_wsS RX4 51 yX4_with wsX4_with) := goodIn_app (goodIn_of _ (by decide +kernel)) ggX4_gaps_X4_with
theorem dX4_gaps_0 : decode cX4_gaps 0 = .ok (.iconst 0, 1) := by decide +kernel
theorem dX4_gaps_1 : decode cX4_gaps 1 = .ok (.anewarray 44, 3) := by decide +kernel
theorem dX4_gaps_4 : decode cX4_gaps 4 = .ok (.astore_n 1, 1) := by decide +kernel
theorem dX4_gaps_5 : decode cX4_gaps 5 = .ok (.iconst 0, 1) := by decide +kernel
theorem dX4_gaps_6 : decode cX4_gaps 6 = .ok (.istore_n 2, 1) := by decide +kernel
theorem dX4_gaps_7 : decode cX4_gaps 7 = .ok (.iconst 0, 1) := by decide +kernel
theorem dX4_gaps_8 : decode cX4_gaps 8 = .ok (.istore_n 3, 1) := by decide +kernel
theorem dX4_gaps_9 : decode cX4_gaps 9 = .ok (.iload_n 3, 1) := by decide +kernel
theorem dX4_gaps_10 : decode cX4_gaps 10 = .ok (.aload_n 0, 1) := by decide +kernel
theorem dX4_gaps_11 : decode cX4_gaps 11 = .ok (.arraylength, 1) := by decide +kernel
theorem dX4_gaps_12 : decode cX4_gaps 12 = .ok (.if_icmp .gt 75, 3) := by decide +kernel
theorem dX4_gaps_15 : decode cX4_gaps 15 = .ok (.iload_n 3, 1) := by decide +kernel
theorem dX4_gaps_16 : decode cX4_gaps 16 = .ok (.aload_n 0, 1) := by decide +kernel
theorem dX4_gaps_17 : decode cX4_gaps 17 = .ok (.arraylength, 1) := by decide +kernel
theorem dX4_gaps_18 : decode cX4_gaps 18 = .ok (.if_icmp .ge 13, 3) := by decide +kernel
theorem dX4_gaps_21 : decode cX4_gaps 21 = .ok (.aload_n 0, 1) := by decide +kernel
theorem dX4_gaps_22 : decode cX4_gaps 22 = .ok (.iload_n 3, 1) := by decide +kernel
theorem dX4_gaps_23 : decode cX4_gaps 23 = .ok (.aaload, 1) := by decide +kernel
theorem dX4_gaps_24 : decode cX4_gaps 24 = .ok (.iconst 0, 1) := by decide +kernel
theorem dX4_gaps_25 : decode cX4_gaps 25 = .ok (.iaload, 1) := by decide +kernel
theorem dX4_gaps_26 : decode cX4_gaps 26 = .ok (.iconst 1, 1) := by decide +kernel
theorem dX4_gaps_27 : decode cX4_gaps 27 = .ok (.isub, 1) := by decide +kernel
theorem dX4_gaps_28 : decode cX4_gaps 28 = .ok (.goto 6, 3) := by decide +kernel
theorem dX4_gaps_31 : decode cX4_gaps 31 = .ok (.sipush 200, 3) := by decide +kernel
theorem dX4_gaps_34 : decode cX4_gaps 34 = .ok (.istore 4, 2) := by decide +kernel
theorem dX4_gaps_36 : decode cX4_gaps 36 = .ok (.iconst 2, 1) := by decide +kernel
theorem dX4_gaps_37 : decode cX4_gaps 37 = .ok (.newarray .int, 2) := by decide +kernel
theorem dX4_gaps_39 : decode cX4_gaps 39 = .ok (.dup, 1) := by decide +kernel
theorem dX4_gaps_40 : decode cX4_gaps 40 = .ok (.iconst 0, 1) := by decide +kernel
theorem dX4_gaps_41 : decode cX4_gaps 41 = .ok (.iload_n 2, 1) := by decide +kernel
theorem dX4_gaps_42 : decode cX4_gaps 42 = .ok (.iastore, 1) := by decide +kernel
theorem dX4_gaps_43 : decode cX4_gaps 43 = .ok (.dup, 1) := by decide +kernel
theorem dX4_gaps_44 : decode cX4_gaps 44 = .ok (.iconst 1, 1) := by decide +kernel
theorem dX4_gaps_45 : decode cX4_gaps 45 = .ok (.iload 4, 2) := by decide +kernel
theorem dX4_gaps_47 : decode cX4_gaps 47 = .ok (.iastore, 1) := by decide +kernel
theorem dX4_gaps_48 : decode cX4_gaps 48 = .ok (.astore 5, 2) := by decide +kernel
theorem dX4_gaps_50 : decode cX4_gaps 50 = .ok (.iload 4, 2) := by decide +kernel
theorem dX4_gaps_52 : decode cX4_gaps 52 = .ok (.iload_n 2, 1) := by decide +kernel
theorem dX4_gaps_53 : decode cX4_gaps 53 = .ok (.if_icmp .lt 10, 3) := by decide +kernel
theorem dX4_gaps_56 : decode cX4_gaps 56 = .ok (.aload_n 1, 1) := by decide +kernel
theorem dX4_gaps_57 : decode cX4_gaps 57 = .ok (.aload 5, 2) := by decide +kernel
theorem dX4_gaps_59 : decode cX4_gaps 59 = .ok (.invokestatic 51, 3) := by decide +kernel
theorem dX4_gaps_62 : decode cX4_gaps 62 = .ok (.astore_n 1, 1) := by decide +kernel
theorem dX4_gaps_63 : decode cX4_gaps 63 = .ok (.iload_n 3, 1) := by decide +kernel
theorem dX4_gaps_64 : decode cX4_gaps 64 = .ok (.aload_n 0, 1) := by decide +kernel
theorem dX4_gaps_65 : decode cX4_gaps 65 = .ok (.arraylength, 1) := by decide +kernel
theorem dX4_gaps_66 : decode cX4_gaps 66 = .ok (.if_icmp .ge 13, 3) := by decide +kernel
theorem dX4_gaps_69 : decode cX4_gaps 69 = .ok (.aload_n 0, 1) := by decide +kernel
theorem dX4_gaps_70 : decode cX4_gaps 70 = .ok (.iload_n 3, 1) := by decide +kernel
theorem dX4_gaps_71 : decode cX4_gaps 71 = .ok (.aaload, 1) := by decide +kernel
theorem dX4_gaps_72 : decode cX4_gaps 72 = .ok (.iconst 1, 1) := by decide +kernel
theorem dX4_gaps_73 : decode cX4_gaps 73 = .ok (.iaload, 1) := by decide +kernel
theorem dX4_gaps_74 : decode cX4_gaps 74 = .ok (.iconst 1, 1) := by decide +kernel
theorem dX4_gaps_75 : decode cX4_gaps 75 = .ok (.iadd, 1) := by decide +kernel
theorem dX4_gaps_76 : decode cX4_gaps 76 = .ok (.goto 4, 3) := by decide +kernel
theorem dX4_gaps_79 : decode cX4_gaps 79 = .ok (.iconst 0, 1) := by decide +kernel
theorem dX4_gaps_80 : decode cX4_gaps 80 = .ok (.istore_n 2, 1) := by decide +kernel
theorem dX4_gaps_81 : decode cX4_gaps 81 = .ok (.iinc 3 1, 3) := by decide +kernel
theorem dX4_gaps_84 : decode cX4_gaps 84 = .ok (.goto (-75), 3) := by decide +kernel
theorem dX4_gaps_87 : decode cX4_gaps 87 = .ok (.aload_n 1, 1) := by decide +kernel
theorem dX4_gaps_88 : decode cX4_gaps 88 = .ok (.areturn, 1) := by decide +kernel
set_option maxRecDepth 20000 in
theorem ggX4_any_X4_draw : GoodIn wsX4_any wsX4_draw := goodIn_r _ [13, 14, 15, 16, 17, 18, 19, 20, 21, 22, 23, 24, 25, 26, 27] (by decide +kernel) (by decide +kernel)
set_option maxRecDepth 20000 in
theorem gX4_any_X4_draw : GoodIn wsX4_any (wsV RX4 62 RX4 yX4_draw wsX4_draw) := goodIn_app (goodIn_of _ (by decide +kernel)) ggX4_any_X4_draw
theorem dX4_any_0 : decode cX4_any 0 = .ok (.aload_n 0, 1) := by decide +kernel
theorem dX4_any_1 : decode cX4_any 1 = .ok (.bipush 101, 2) := by decide +kernel
theorem dX4_any_3 : decode cX4_any 3 = .ok (.invokevirtual 62, 3) := by decide +kernel
theorem dX4_any_6 : decode cX4_any 6 = .ok (.istore_n 1, 1) := by decide +kernel
theorem dX4_any_7 : decode cX4_any 7 = .ok (.aload_n 0, 1) := by decide +kernel
theorem dX4_any_8 : decode cX4_any 8 = .ok (.iconst 3, 1) := by decide +kernel
theorem dX4_any_9 : decode cX4_any 9 = .ok (.invokevirtual 62, 3) := by decide +kernel
theorem dX4_any_12 : decode cX4_any 12 = .ok (.ifCond .ne 12, 3) := by decide +kernel
theorem dX4_any_15 : decode cX4_any 15 = .ok (.aload_n 0, 1) := by decide +kernel
theorem dX4_any_16 : decode cX4_any 16 = .ok (.bipush 101, 2) := by decide +kernel
theorem dX4_any_18 : decode cX4_any 18 = .ok (.invokevirtual 62, 3) := by decide +kernel
theorem dX4_any_21 : decode cX4_any 21 = .ok (.goto 16, 3) := by decide +kernel
theorem dX4_any_24 : decode cX4_any 24 = .ok (.bipush 100, 2) := by decide +kernel
theorem dX4_any_26 : decode cX4_any 26 = .ok (.iload_n 1, 1) := by decide +kernel
theorem dX4_any_27 : decode cX4_any 27 = .ok (.aload_n 0, 1) := by decide +kernel
theorem dX4_any_28 : decode cX4_any 28 = .ok (.bipush 14, 2) := by decide +kernel
theorem dX4_any_30 : decode cX4_any 30 = .ok (.invokevirtual 62, 3) := by decide +kernel
theorem dX4_any_33 : decode cX4_any 33 = .ok (.iadd, 1) := by decide +kernel
theorem dX4_any_34 : decode cX4_any 34 = .ok (.invokestatic 66, 3) := by decide +kernel
theorem dX4_any_37 : decode cX4_any 37 = .ok (.istore_n 2, 1) := by decide +kernel
theorem dX4_any_38 : decode cX4_any 38 = .ok (.aload_n 0, 1) := by decide +kernel
theorem dX4_any_39 : decode cX4_any 39 = .ok (.iconst 4, 1) := by decide +kernel
theorem dX4_any_40 : decode cX4_any 40 = .ok (.invokevirtual 62, 3) := by decide +kernel
theorem dX4_any_43 : decode cX4_any 43 = .ok (.istore_n 3, 1) := by decide +kernel
theorem dX4_any_44 : decode cX4_any 44 = .ok (.iload_n 1, 1) := by decide +kernel
theorem dX4_any_45 : decode cX4_any 45 = .ok (.iload_n 2, 1) := by decide +kernel
theorem dX4_any_46 : decode cX4_any 46 = .ok (.invokestatic 66, 3) := by decide +kernel
theorem dX4_any_49 : decode cX4_any 49 = .ok (.istore 4, 2) := by decide +kernel
theorem dX4_any_51 : decode cX4_any 51 = .ok (.iload_n 1, 1) := by decide +kernel
theorem dX4_any_52 : decode cX4_any 52 = .ok (.iload_n 2, 1) := by decide +kernel
theorem dX4_any_53 : decode cX4_any 53 = .ok (.invokestatic 71, 3) := by decide +kernel
theorem dX4_any_56 : decode cX4_any 56 = .ok (.istore 5, 2) := by decide +kernel
theorem dX4_any_58 : decode cX4_any 58 = .ok (.iconst 5, 1) := by decide +kernel
theorem dX4_any_59 : decode cX4_any 59 = .ok (.newarray .int, 2) := by decide +kernel
theorem dX4_any_61 : decode cX4_any 61 = .ok (.dup, 1) := by decide +kernel
theorem dX4_any_62 : decode cX4_any 62 = .ok (.iconst 0, 1) := by decide +kernel
theorem dX4_any_63 : decode cX4_any 63 = .ok (.iconst 2, 1) := by decide +kernel
theorem dX4_any_64 : decode cX4_any 64 = .ok (.iload 4, 2) := by decide +kernel
theorem dX4_any_66 : decode cX4_any 66 = .ok (.imul, 1) := by decide +kernel
theorem dX4_any_67 : decode cX4_any 67 = .ok (.iconst 1, 1) := by decide +kernel
theorem dX4_any_68 : decode cX4_any 68 = .ok (.iadd, 1) := by decide +kernel
theorem dX4_any_69 : decode cX4_any 69 = .ok (.iload_n 3, 1) := by decide +kernel
theorem dX4_any_70 : decode cX4_any 70 = .ok (.iconst 2, 1) := by decide +kernel
theorem dX4_any_71 : decode cX4_any 71 = .ok (.irem, 1) := by decide +kernel
theorem dX4_any_72 : decode cX4_any 72 = .ok (.isub, 1) := by decide +kernel
theorem dX4_any_73 : decode cX4_any 73 = .ok (.iastore, 1) := by decide +kernel
theorem dX4_any_74 : decode cX4_any 74 = .ok (.dup, 1) := by decide +kernel
theorem dX4_any_75 : decode cX4_any 75 = .ok (.iconst 1, 1) := by decide +kernel
theorem dX4_any_76 : decode cX4_any 76 = .ok (.iconst 2, 1) := by decide +kernel
theorem dX4_any_77 : decode cX4_any 77 = .ok (.iload 5, 2) := by decide +kernel
theorem dX4_any_79 : decode cX4_any 79 = .ok (.imul, 1) := by decide +kernel
theorem dX4_any_80 : decode cX4_any 80 = .ok (.iconst 1, 1) := by decide +kernel
theorem dX4_any_81 : decode cX4_any 81 = .ok (.isub, 1) := by decide +kernel
theorem dX4_any_82 : decode cX4_any 82 = .ok (.iload_n 3, 1) := by decide +kernel
theorem dX4_any_83 : decode cX4_any 83 = .ok (.iconst 2, 1) := by decide +kernel
theorem dX4_any_84 : decode cX4_any 84 = .ok (.idiv, 1) := by decide +kernel
theorem dX4_any_85 : decode cX4_any 85 = .ok (.iadd, 1) := by decide +kernel
theorem dX4_any_86 : decode cX4_any 86 = .ok (.iastore, 1) := by decide +kernel
theorem dX4_any_87 : decode cX4_any 87 = .ok (.dup, 1) := by decide +kernel
theorem dX4_any_88 : decode cX4_any 88 = .ok (.iconst 2, 1) := by decide +kernel
theorem dX4_any_89 : decode cX4_any 89 = .ok (.iload 4, 2) := by decide +kernel
theorem dX4_any_91 : decode cX4_any 91 = .ok (.iastore, 1) := by decide +kernel
theorem dX4_any_92 : decode cX4_any 92 = .ok (.dup, 1) := by decide +kernel
theorem dX4_any_93 : decode cX4_any 93 = .ok (.iconst 3, 1) := by decide +kernel
theorem dX4_any_94 : decode cX4_any 94 = .ok (.iload 5, 2) := by decide +kernel
theorem dX4_any_96 : decode cX4_any 96 = .ok (.iastore, 1) := by decide +kernel
theorem dX4_any_97 : decode cX4_any 97 = .ok (.dup, 1) := by decide +kernel
theorem dX4_any_98 : decode cX4_any 98 = .ok (.iconst 4, 1) := by decide +kernel
theorem dX4_any_99 : decode cX4_any 99 = .ok (.iload_n 3, 1) := by decide +kernel
theorem dX4_any_100 : decode cX4_any 100 = .ok (.iastore, 1) := by decide +kernel
theorem dX4_any_101 : decode cX4_any 101 = .ok (.astore 6, 2) := by decide +kernel
theorem dX4_any_103 : decode cX4_any 103 = .ok (.iload 4, 2) := by decide +kernel
theorem dX4_any_105 : decode cX4_any 105 = .ok (.iload 5, 2) := by decide +kernel
theorem dX4_any_107 : decode cX4_any 107 = .ok (.if_icmp .ne 19, 3) := by decide +kernel
theorem dX4_any_110 : decode cX4_any 110 = .ok (.aload 6, 2) := by decide +kernel
theorem dX4_any_112 : decode cX4_any 112 = .ok (.iconst 0, 1) := by decide +kernel
theorem dX4_any_113 : decode cX4_any 113 = .ok (.iconst 2, 1) := by decide +kernel
theorem dX4_any_114 : decode cX4_any 114 = .ok (.iload 4, 2) := by decide +kernel
theorem dX4_any_116 : decode cX4_any 116 = .ok (.imul, 1) := by decide +kernel
theorem dX4_any_117 : decode cX4_any 117 = .ok (.iastore, 1) := by decide +kernel
theorem dX4_any_118 : decode cX4_any 118 = .ok (.aload 6, 2) := by decide +kernel
theorem dX4_any_120 : decode cX4_any 120 = .ok (.iconst 1, 1) := by decide +kernel
theorem dX4_any_121 : decode cX4_any 121 = .ok (.iconst 2, 1) := by decide +kernel
theorem dX4_any_122 : decode cX4_any 122 = .ok (.iload 4, 2) := by decide +kernel
theorem dX4_any_124 : decode cX4_any 124 = .ok (.imul, 1) := by decide +kernel
theorem dX4_any_125 : decode cX4_any 125 = .ok (.iastore, 1) := by decide +kernel
theorem dX4_any_126 : decode cX4_any 126 = .ok (.aload 6, 2) := by decide +kernel
theorem dX4_any_128 : decode cX4_any 128 = .ok (.areturn, 1) := by decide +kernel
set_option maxRecDepth 20000 in
theorem ggX4_span_X4_draw : GoodIn wsX4_span wsX4_draw := goodIn_r _ [7, 8, 9, 10, 11, 12, 13, 14, 15, 16, 89, 90, 91, 92, 93] (by decide +kernel) (by decide +kernel)
set_option maxRecDepth 20000 in
theorem gX4_span_X4_draw : GoodIn wsX4_span (wsV RX4 62 RX4 yX4_draw wsX4_draw) := goodIn_app (goodIn_of _ (by decide +kernel)) ggX4_span_X4_draw
set_option maxRecDepth 20000 in
theorem ggX4_span_X4_any : GoodIn wsX4_span wsX4_any := goodIn_r _ [20, 21, 22, 23, 24, 25, 26, 27, 28, 3, 4, 5, 6, 7, 8, 9, 10, 11, 12, 13, 14, 15, 16, 89, 90, 91, 92, 93] (by decide +kernel) (by decide +kernel)
set_option maxRecDepth 20000 in
theorem gX4_span_X4_any : GoodIn wsX4_span (wsV RX4 74 RX4 yX4_any wsX4_any) := goodIn_app (goodIn_of _ (by decide +kernel)) ggX4_span_X4_any
set_option maxRecDepth 20000 in
theorem ggX4_span_X4_row : GoodIn wsX4_span wsX4_row := goodIn_r _ [31, 32] (by decide +kernel) (by decide +kernel)
set_option maxRecDepth 20000 in
theorem gX4_span_X4_row : GoodIn wsX4_span (va_wsS RX4 78 yX4_row wsX4_row) := goodIn_app (goodIn_of _ (by decide +kernel)) ggX4_span_X4_row
set_option maxRecDepth 20000 in
theorem ggX4_span_X4_spans : GoodIn wsX4_span wsX4_spans := goodIn_r _ [35, 36, 28, 37, 38, 6, 39, 40, 41, 42, 43] (by decide +kernel) (by decide +kernel)
set_option maxRecDepth 20000 in
theorem gX4_span_X4_spans : GoodIn wsX4_span (va_wsS RX4 82 yX4_spans wsX4_spans) := goodIn_app (goodIn_of _ (by decide +kernel)) ggX4_span_X4_spans
set_option maxRecDepth 20000 in
theorem ggX4_span_X3_span : GoodIn wsX4_span wsX3_span := goodIn_ca (goodIn_ca (goodIn_r _ [48, 49, 50, 51, 47, 52, 53, 54, 55, 56, 57, 58, 59, 60, 61, 62, 63, 64, 65, 66, 67, 68, 69, 70, 71, 72, 73, 74, 75, 76, 77, 78, 79, 26, 23, 27, 80, 81, 82, 83, 84, 85, 86, 87, 88, 94, 95, 96, 97, 98, 99, 100] (by decide +kernel) (by decide +kernel)) (goodIn_sub (fun _ h => List.mem_cons_of_mem _ (List.mem_append_left _ (List.mem_append_right _ h))) (by decide +kernel))) (goodIn_sub (fun _ h => List.mem_cons_of_mem _ (List.mem_append_right _ h)) (by decide +kernel))
set_option maxRecDepth 20000 in
theorem gX4_span_X3_span : GoodIn wsX4_span (wsV RX4 86 RX3 yX3_span wsX3_span) := goodIn_app (goodIn_of _ (by decide +kernel)) ggX4_span_X3_span
theorem dX4_span_0 : decode cX4_span 0 = .ok (.aload_n 0, 1) := by decide +kernel
theorem dX4_span_1 : decode cX4_span 1 = .ok (.bipush 8, 2) := by decide +kernel
theorem dX4_span_3 : decode cX4_span 3 = .ok (.invokevirtual 62, 3) := by decide +kernel
theorem dX4_span_6 : decode cX4_span 6 = .ok (.istore_n 1, 1) := by decide +kernel
theorem dX4_span_7 : decode cX4_span 7 = .ok (.aload_n 0, 1) := by decide +kernel
theorem dX4_span_8 : decode cX4_span 8 = .ok (.invokevirtual 74, 3) := by decide +kernel
theorem dX4_span_11 : decode cX4_span 11 = .ok (.astore_n 2, 1) := by decide +kernel
theorem dX4_span_12 : decode cX4_span 12 = .ok (.aload_n 0, 1) := by decide +kernel
theorem dX4_span_13 : decode cX4_span 13 = .ok (.iconst 3, 1) := by decide +kernel
theorem dX4_span_14 : decode cX4_span 14 = .ok (.invokevirtual 62, 3) := by decide +kernel
theorem dX4_span_17 : decode cX4_span 17 = .ok (.ifCond .le 7, 3) := by decide +kernel
theorem dX4_span_20 : decode cX4_span 20 = .ok (.iconst 1, 1) := by decide +kernel
theorem dX4_span_21 : decode cX4_span 21 = .ok (.goto 4, 3) := by decide +kernel
theorem dX4_span_24 : decode cX4_span 24 = .ok (.iconst 0, 1) := by decide +kernel
theorem dX4_span_25 : decode cX4_span 25 = .ok (.istore_n 3, 1) := by decide +kernel
theorem dX4_span_26 : decode cX4_span 26 = .ok (.aload_n 0, 1) := by decide +kernel
theorem dX4_span_27 : decode cX4_span 27 = .ok (.getfield 18, 3) := by decide +kernel
theorem dX4_span_30 : decode cX4_span 30 = .ok (.iload_n 1, 1) := by decide +kernel
theorem dX4_span_31 : decode cX4_span 31 = .ok (.aaload, 1) := by decide +kernel
theorem dX4_span_32 : decode cX4_span 32 = .ok (.invokestatic 78, 3) := by decide +kernel
theorem dX4_span_35 : decode cX4_span 35 = .ok (.astore 4, 2) := by decide +kernel
theorem dX4_span_37 : decode cX4_span 37 = .ok (.iconst 0, 1) := by decide +kernel
theorem dX4_span_38 : decode cX4_span 38 = .ok (.istore 5, 2) := by decide +kernel
theorem dX4_span_40 : decode cX4_span 40 = .ok (.aload_n 2, 1) := by decide +kernel
theorem dX4_span_41 : decode cX4_span 41 = .ok (.iconst 0, 1) := by decide +kernel
theorem dX4_span_42 : decode cX4_span 42 = .ok (.iaload, 1) := by decide +kernel
theorem dX4_span_43 : decode cX4_span 43 = .ok (.istore 6, 2) := by decide +kernel
theorem dX4_span_45 : decode cX4_span 45 = .ok (.iload 6, 2) := by decide +kernel
theorem dX4_span_47 : decode cX4_span 47 = .ok (.aload_n 2, 1) := by decide +kernel
theorem dX4_span_48 : decode cX4_span 48 = .ok (.iconst 1, 1) := by decide +kernel
theorem dX4_span_49 : decode cX4_span 49 = .ok (.iaload, 1) := by decide +kernel
theorem dX4_span_50 : decode cX4_span 50 = .ok (.if_icmp .gt 34, 3) := by decide +kernel
theorem dX4_span_53 : decode cX4_span 53 = .ok (.iload 5, 2) := by decide +kernel
theorem dX4_span_55 : decode cX4_span 55 = .ok (.aload 4, 2) := by decide +kernel
theorem dX4_span_57 : decode cX4_span 57 = .ok (.iload 6, 2) := by decide +kernel
theorem dX4_span_59 : decode cX4_span 59 = .ok (.baload, 1) := by decide +kernel
theorem dX4_span_60 : decode cX4_span 60 = .ok (.iload_n 3, 1) := by decide +kernel
theorem dX4_span_61 : decode cX4_span 61 = .ok (.if_icmp .ne 7, 3) := by decide +kernel
theorem dX4_span_64 : decode cX4_span 64 = .ok (.iconst 0, 1) := by decide +kernel
theorem dX4_span_65 : decode cX4_span 65 = .ok (.goto 4, 3) := by decide +kernel
theorem dX4_span_68 : decode cX4_span 68 = .ok (.iconst 1, 1) := by decide +kernel
theorem dX4_span_69 : decode cX4_span 69 = .ok (.iadd, 1) := by decide +kernel
theorem dX4_span_70 : decode cX4_span 70 = .ok (.istore 5, 2) := by decide +kernel
theorem dX4_span_72 : decode cX4_span 72 = .ok (.aload 4, 2) := by decide +kernel
theorem dX4_span_74 : decode cX4_span 74 = .ok (.iload 6, 2) := by decide +kernel
theorem dX4_span_76 : decode cX4_span 76 = .ok (.iload_n 3, 1) := by decide +kernel
theorem dX4_span_77 : decode cX4_span 77 = .ok (.bastore, 1) := by decide +kernel
theorem dX4_span_78 : decode cX4_span 78 = .ok (.iinc 6 1, 3) := by decide +kernel
theorem dX4_span_81 : decode cX4_span 81 = .ok (.goto (-36), 3) := by decide +kernel
theorem dX4_span_84 : decode cX4_span 84 = .ok (.aload_n 0, 1) := by decide +kernel
theorem dX4_span_85 : decode cX4_span 85 = .ok (.getfield 18, 3) := by decide +kernel
theorem dX4_span_88 : decode cX4_span 88 = .ok (.iload_n 1, 1) := by decide +kernel
theorem dX4_span_89 : decode cX4_span 89 = .ok (.aload 4, 2) := by decide +kernel
theorem dX4_span_91 : decode cX4_span 91 = .ok (.invokestatic 82, 3) := by decide +kernel
theorem dX4_span_94 : decode cX4_span 94 = .ok (.aastore, 1) := by decide +kernel
theorem dX4_span_95 : decode cX4_span 95 = .ok (.aload_n 0, 1) := by decide +kernel
theorem dX4_span_96 : decode cX4_span 96 = .ok (.getfield 10, 3) := by decide +kernel
theorem dX4_span_99 : decode cX4_span 99 = .ok (.iload_n 1, 1) := by decide +kernel
theorem dX4_span_100 : decode cX4_span 100 = .ok (.aload_n 2, 1) := by decide +kernel
theorem dX4_span_101 : decode cX4_span 101 = .ok (.iconst 2, 1) := by decide +kernel
theorem dX4_span_102 : decode cX4_span 102 = .ok (.iaload, 1) := by decide +kernel
theorem dX4_span_103 : decode cX4_span 103 = .ok (.aload_n 2, 1) := by decide +kernel
theorem dX4_span_104 : decode cX4_span 104 = .ok (.iconst 3, 1) := by decide +kernel
theorem dX4_span_105 : decode cX4_span 105 = .ok (.iaload, 1) := by decide +kernel
theorem dX4_span_106 : decode cX4_span 106 = .ok (.aload_n 2, 1) := by decide +kernel
theorem dX4_span_107 : decode cX4_span 107 = .ok (.iconst 4, 1) := by decide +kernel
theorem dX4_span_108 : decode cX4_span 108 = .ok (.iaload, 1) := by decide +kernel
theorem dX4_span_109 : decode cX4_span 109 = .ok (.iload_n 3, 1) := by decide +kernel
theorem dX4_span_110 : decode cX4_span 110 = .ok (.invokevirtual 86, 3) := by decide +kernel
theorem dX4_span_113 : decode cX4_span 113 = .ok (.iload 5, 2) := by decide +kernel
theorem dX4_span_115 : decode cX4_span 115 = .ok (.if_icmp .ne 7, 3) := by decide +kernel
theorem dX4_span_118 : decode cX4_span 118 = .ok (.iconst 1, 1) := by decide +kernel
theorem dX4_span_119 : decode cX4_span 119 = .ok (.goto 4, 3) := by decide +kernel
theorem dX4_span_122 : decode cX4_span 122 = .ok (.iconst 0, 1) := by decide +kernel
theorem dX4_span_123 : decode cX4_span 123 = .ok (.ireturn, 1) := by decide +kernel
set_option maxRecDepth 20000 in
theorem ggX4_join_X4_draw : GoodIn wsX4_join wsX4_draw := goodIn_r _ [8, 9, 10, 11, 12, 13, 14, 15, 16, 17, 75, 76, 77, 78, 79] (by decide +kernel) (by decide +kernel)
set_option maxRecDepth 20000 in
theorem gX4_join_X4_draw : GoodIn wsX4_join (wsV RX4 62 RX4 yX4_draw wsX4_draw) := goodIn_app (goodIn_of _ (by decide +kernel)) ggX4_join_X4_draw
set_option maxRecDepth 20000 in
theorem ggX4_join_X4_isIn : GoodIn wsX4_join wsX4_isIn := goodIn_r _ [20] (by decide +kernel) (by decide +kernel)
set_option maxRecDepth 20000 in
theorem gX4_join_X4_isIn : GoodIn wsX4_join (va_wsS RX4 90 yX4_isIn wsX4_isIn) := goodIn_app (goodIn_of _ (by decide +kernel)) ggX4_join_X4_isIn
set_option maxRecDepth 20000 in
theorem ggX4_join_X4_spans : GoodIn wsX4_join wsX4_spans := goodIn_r _ [23, 24, 25, 26, 27, 7, 28, 29, 30, 31, 32] (by decide +kernel) (by decide +kernel)
set_option maxRecDepth 20000 in
theorem gX4_join_X4_spans : GoodIn wsX4_join (va_wsS RX4 82 yX4_spans wsX4_spans) := goodIn_app (goodIn_of _ (by decide +kernel)) ggX4_join_X4_spans
set_option maxRecDepth 20000 in
theorem ggX4_join_X3_join : GoodIn wsX4_join wsX3_join := goodIn_ca (goodIn_ca (goodIn_r _ [37, 38, 39, 40, 36, 41, 42, 43, 44, 45, 46, 47, 48, 49, 50, 51, 52, 53, 54, 55, 56, 57, 58, 59, 60, 61, 62, 63, 64, 65, 66, 67, 68, 69, 70, 71, 80, 81, 82, 83, 84, 85, 86] (by decide +kernel) (by decide +kernel)) (goodIn_sub (fun _ h => List.mem_cons_of_mem _ (List.mem_append_left _ (List.mem_append_right _ h))) (by decide +kernel))) (goodIn_sub (fun _ h => List.mem_cons_of_mem _ (List.mem_append_right _ h)) (by decide +kernel))
set_option maxRecDepth 20000 in
theorem gX4_join_X3_join : GoodIn wsX4_join (wsV RX4 94 RX3 yX3_join wsX3_join) := goodIn_app (goodIn_of _ (by decide +kernel)) ggX4_join_X3_join
set_option maxRecDepth 20000 in
theorem ggX4_join_X4_count : GoodIn wsX4_join wsX4_count := goodIn_r _ [74] (by decide +kernel) (by decide +kernel)
set_option maxRecDepth 20000 in
theorem gX4_join_X4_count : GoodIn wsX4_join (va_wsS RX4 98 yX4_count wsX4_count) := goodIn_app (goodIn_of _ (by decide +kernel)) ggX4_join_X4_count
theorem dX4_join_0 : decode cX4_join 0 = .ok (.aload_n 0, 1) := by decide +kernel
theorem dX4_join_1 : decode cX4_join 1 = .ok (.bipush 8, 2) := by decide +kernel
theorem dX4_join_3 : decode cX4_join 3 = .ok (.invokevirtual 62, 3) := by decide +kernel
theorem dX4_join_6 : decode cX4_join 6 = .ok (.istore_n 1, 1) := by decide +kernel
theorem dX4_join_7 : decode cX4_join 7 = .ok (.aload_n 0, 1) := by decide +kernel
theorem dX4_join_8 : decode cX4_join 8 = .ok (.bipush 8, 2) := by decide +kernel
theorem dX4_join_10 : decode cX4_join 10 = .ok (.invokevirtual 62, 3) := by decide +kernel
theorem dX4_join_13 : decode cX4_join 13 = .ok (.istore_n 2, 1) := by decide +kernel
theorem dX4_join_14 : decode cX4_join 14 = .ok (.aload_n 0, 1) := by decide +kernel
theorem dX4_join_15 : decode cX4_join 15 = .ok (.bipush 8, 2) := by decide +kernel
theorem dX4_join_17 : decode cX4_join 17 = .ok (.invokevirtual 62, 3) := by decide +kernel
theorem dX4_join_20 : decode cX4_join 20 = .ok (.istore_n 3, 1) := by decide +kernel
theorem dX4_join_21 : decode cX4_join 21 = .ok (.aload_n 0, 1) := by decide +kernel
theorem dX4_join_22 : decode cX4_join 22 = .ok (.iconst 4, 1) := by decide +kernel
theorem dX4_join_23 : decode cX4_join 23 = .ok (.invokevirtual 62, 3) := by decide +kernel
theorem dX4_join_26 : decode cX4_join 26 = .ok (.istore 4, 2) := by decide +kernel
theorem dX4_join_28 : decode cX4_join 28 = .ok (.sipush 201, 3) := by decide +kernel
theorem dX4_join_31 : decode cX4_join 31 = .ok (.newarray .boolean, 2) := by decide +kernel
theorem dX4_join_33 : decode cX4_join 33 = .ok (.astore 5, 2) := by decide +kernel
theorem dX4_join_35 : decode cX4_join 35 = .ok (.iconst 0, 1) := by decide +kernel
theorem dX4_join_36 : decode cX4_join 36 = .ok (.istore 6, 2) := by decide +kernel
theorem dX4_join_38 : decode cX4_join 38 = .ok (.iload 6, 2) := by decide +kernel
theorem dX4_join_40 : decode cX4_join 40 = .ok (.sipush 200, 3) := by decide +kernel
theorem dX4_join_43 : decode cX4_join 43 = .ok (.if_icmp .gt 113, 3) := by decide +kernel
theorem dX4_join_46 : decode cX4_join 46 = .ok (.aload_n 0, 1) := by decide +kernel
theorem dX4_join_47 : decode cX4_join 47 = .ok (.getfield 18, 3) := by decide +kernel
theorem dX4_join_50 : decode cX4_join 50 = .ok (.iload_n 2, 1) := by decide +kernel
theorem dX4_join_51 : decode cX4_join 51 = .ok (.aaload, 1) := by decide +kernel
theorem dX4_join_52 : decode cX4_join 52 = .ok (.iload 6, 2) := by decide +kernel
theorem dX4_join_54 : decode cX4_join 54 = .ok (.invokestatic 90, 3) := by decide +kernel
theorem dX4_join_57 : decode cX4_join 57 = .ok (.ifCond .eq 7, 3) := by decide +kernel
theorem dX4_join_60 : decode cX4_join 60 = .ok (.iconst 1, 1) := by decide +kernel
theorem dX4_join_61 : decode cX4_join 61 = .ok (.goto 4, 3) := by decide +kernel
theorem dX4_join_64 : decode cX4_join 64 = .ok (.iconst 0, 1) := by decide +kernel
theorem dX4_join_65 : decode cX4_join 65 = .ok (.aload_n 0, 1) := by decide +kernel
theorem dX4_join_66 : decode cX4_join 66 = .ok (.getfield 18, 3) := by decide +kernel
theorem dX4_join_69 : decode cX4_join 69 = .ok (.iload_n 3, 1) := by decide +kernel
theorem dX4_join_70 : decode cX4_join 70 = .ok (.aaload, 1) := by decide +kernel
theorem dX4_join_71 : decode cX4_join 71 = .ok (.iload 6, 2) := by decide +kernel
theorem dX4_join_73 : decode cX4_join 73 = .ok (.invokestatic 90, 3) := by decide +kernel
theorem dX4_join_76 : decode cX4_join 76 = .ok (.ifCond .eq 7, 3) := by decide +kernel
theorem dX4_join_79 : decode cX4_join 79 = .ok (.iconst 2, 1) := by decide +kernel
theorem dX4_join_80 : decode cX4_join 80 = .ok (.goto 4, 3) := by decide +kernel
theorem dX4_join_83 : decode cX4_join 83 = .ok (.iconst 0, 1) := by decide +kernel
theorem dX4_join_84 : decode cX4_join 84 = .ok (.iadd, 1) := by decide +kernel
theorem dX4_join_85 : decode cX4_join 85 = .ok (.istore 7, 2) := by decide +kernel
theorem dX4_join_87 : decode cX4_join 87 = .ok (.aload 5, 2) := by decide +kernel
theorem dX4_join_89 : decode cX4_join 89 = .ok (.iload 6, 2) := by decide +kernel
theorem dX4_join_91 : decode cX4_join 91 = .ok (.iload 7, 2) := by decide +kernel
theorem dX4_join_93 : decode cX4_join 93 = .ok (.iconst 3, 1) := by decide +kernel
theorem dX4_join_94 : decode cX4_join 94 = .ok (.if_icmp .ne 17, 3) := by decide +kernel
theorem dX4_join_97 : decode cX4_join 97 = .ok (.iload 4, 2) := by decide +kernel
theorem dX4_join_99 : decode cX4_join 99 = .ok (.iconst 2, 1) := by decide +kernel
theorem dX4_join_100 : decode cX4_join 100 = .ok (.if_icmp .ge 7, 3) := by decide +kernel
theorem dX4_join_103 : decode cX4_join 103 = .ok (.iconst 1, 1) := by decide +kernel
theorem dX4_join_104 : decode cX4_join 104 = .ok (.goto 45, 3) := by decide +kernel
theorem dX4_join_107 : decode cX4_join 107 = .ok (.iconst 0, 1) := by decide +kernel
theorem dX4_join_108 : decode cX4_join 108 = .ok (.goto 41, 3) := by decide +kernel
theorem dX4_join_111 : decode cX4_join 111 = .ok (.iload 7, 2) := by decide +kernel
theorem dX4_join_113 : decode cX4_join 113 = .ok (.iconst 1, 1) := by decide +kernel
theorem dX4_join_114 : decode cX4_join 114 = .ok (.if_icmp .ne 17, 3) := by decide +kernel
theorem dX4_join_117 : decode cX4_join 117 = .ok (.iload 4, 2) := by decide +kernel
theorem dX4_join_119 : decode cX4_join 119 = .ok (.iconst 1, 1) := by decide +kernel
theorem dX4_join_120 : decode cX4_join 120 = .ok (.if_icmp .eq 7, 3) := by decide +kernel
theorem dX4_join_123 : decode cX4_join 123 = .ok (.iconst 1, 1) := by decide +kernel
theorem dX4_join_124 : decode cX4_join 124 = .ok (.goto 25, 3) := by decide +kernel
theorem dX4_join_127 : decode cX4_join 127 = .ok (.iconst 0, 1) := by decide +kernel
theorem dX4_join_128 : decode cX4_join 128 = .ok (.goto 21, 3) := by decide +kernel
theorem dX4_join_131 : decode cX4_join 131 = .ok (.iload 7, 2) := by decide +kernel
theorem dX4_join_133 : decode cX4_join 133 = .ok (.iconst 2, 1) := by decide +kernel
theorem dX4_join_134 : decode cX4_join 134 = .ok (.if_icmp .ne 14, 3) := by decide +kernel
theorem dX4_join_137 : decode cX4_join 137 = .ok (.iload 4, 2) := by decide +kernel
theorem dX4_join_139 : decode cX4_join 139 = .ok (.iconst 3, 1) := by decide +kernel
theorem dX4_join_140 : decode cX4_join 140 = .ok (.irem, 1) := by decide +kernel
theorem dX4_join_141 : decode cX4_join 141 = .ok (.ifCond .ne 7, 3) := by decide +kernel
theorem dX4_join_144 : decode cX4_join 144 = .ok (.iconst 1, 1) := by decide +kernel
theorem dX4_join_145 : decode cX4_join 145 = .ok (.goto 4, 3) := by decide +kernel
theorem dX4_join_148 : decode cX4_join 148 = .ok (.iconst 0, 1) := by decide +kernel
theorem dX4_join_149 : decode cX4_join 149 = .ok (.bastore, 1) := by decide +kernel
theorem dX4_join_150 : decode cX4_join 150 = .ok (.iinc 6 1, 3) := by decide +kernel
theorem dX4_join_153 : decode cX4_join 153 = .ok (.goto (-115), 3) := by decide +kernel
theorem dX4_join_156 : decode cX4_join 156 = .ok (.aload_n 0, 1) := by decide +kernel
theorem dX4_join_157 : decode cX4_join 157 = .ok (.getfield 18, 3) := by decide +kernel
theorem dX4_join_160 : decode cX4_join 160 = .ok (.iload_n 1, 1) := by decide +kernel
theorem dX4_join_161 : decode cX4_join 161 = .ok (.aload 5, 2) := by decide +kernel
theorem dX4_join_163 : decode cX4_join 163 = .ok (.invokestatic 82, 3) := by decide +kernel
theorem dX4_join_166 : decode cX4_join 166 = .ok (.aastore, 1) := by decide +kernel
theorem dX4_join_167 : decode cX4_join 167 = .ok (.aload_n 0, 1) := by decide +kernel
theorem dX4_join_168 : decode cX4_join 168 = .ok (.getfield 10, 3) := by decide +kernel
theorem dX4_join_171 : decode cX4_join 171 = .ok (.iload_n 1, 1) := by decide +kernel
theorem dX4_join_172 : decode cX4_join 172 = .ok (.iload_n 2, 1) := by decide +kernel
theorem dX4_join_173 : decode cX4_join 173 = .ok (.iload_n 3, 1) := by decide +kernel
theorem dX4_join_174 : decode cX4_join 174 = .ok (.iload 4, 2) := by decide +kernel
theorem dX4_join_176 : decode cX4_join 176 = .ok (.invokevirtual 94, 3) := by decide +kernel
theorem dX4_join_179 : decode cX4_join 179 = .ok (.aload_n 0, 1) := by decide +kernel
theorem dX4_join_180 : decode cX4_join 180 = .ok (.getfield 18, 3) := by decide +kernel
theorem dX4_join_183 : decode cX4_join 183 = .ok (.iload_n 1, 1) := by decide +kernel
theorem dX4_join_184 : decode cX4_join 184 = .ok (.aaload, 1) := by decide +kernel
theorem dX4_join_185 : decode cX4_join 185 = .ok (.invokestatic 98, 3) := by decide +kernel
theorem dX4_join_188 : decode cX4_join 188 = .ok (.if_icmp .ne 7, 3) := by decide +kernel
theorem dX4_join_191 : decode cX4_join 191 = .ok (.iconst 1, 1) := by decide +kernel
theorem dX4_join_192 : decode cX4_join 192 = .ok (.goto 4, 3) := by decide +kernel
theorem dX4_join_195 : decode cX4_join 195 = .ok (.iconst 0, 1) := by decide +kernel
theorem dX4_join_196 : decode cX4_join 196 = .ok (.ireturn, 1) := by decide +kernel
set_option maxRecDepth 20000 in
theorem ggX4_change_X4_draw : GoodIn wsX4_change wsX4_draw := goodIn_r _ [13, 14, 15, 16, 17, 18, 19, 20, 21, 22, 160, 161, 162, 163, 164] (by decide +kernel) (by decide +kernel)
set_option maxRecDepth 20000 in
theorem gX4_change_X4_draw : GoodIn wsX4_change (wsV RX4 62 RX4 yX4_draw wsX4_draw) := goodIn_app (goodIn_of _ (by decide +kernel)) ggX4_change_X4_draw
set_option maxRecDepth 20000 in
theorem ggX4_change_X4_end : GoodIn wsX4_change wsX4_end := goodIn_r _ [25] (by decide +kernel) (by decide +kernel)
set_option maxRecDepth 20000 in
theorem gX4_change_X4_end : GoodIn wsX4_change (va_wsS RX4 55 yX4_end wsX4_end) := goodIn_app (goodIn_of _ (by decide +kernel)) ggX4_change_X4_end
set_option maxRecDepth 20000 in
theorem ggX4_change_X4_begin : GoodIn wsX4_change wsX4_begin := goodIn_r _ [28] (by decide +kernel) (by decide +kernel)
set_option maxRecDepth 20000 in
theorem gX4_change_X4_begin : GoodIn wsX4_change (va_wsS RX4 59 yX4_begin wsX4_begin) := goodIn_app (goodIn_of _ (by decide +kernel)) ggX4_change_X4_begin
set_option maxRecDepth 20000 in
theorem ggX4_change_X4_with : GoodIn wsX4_change wsX4_with := goodIn_r _ [31, 2, 32, 33, 34, 35] (by decide +kernel) (by decide +kernel)
set_option maxRecDepth 20000 in
theorem gX4_change_X4_with : GoodIn wsX4_change (va_wsS RX4 51 yX4_with wsX4_with) := goodIn_app (goodIn_of _ (by decide +kernel)) ggX4_change_X4_with
set_option maxRecDepth 20000 in
theorem ggX4_change_X4_gaps : GoodIn wsX4_change wsX4_gaps := goodIn_r _ [38, 2, 7, 29, 30, 12, 31, 32, 33, 34, 35] (by decide +kernel) (by decide +kernel)
set_option maxRecDepth 20000 in
theorem gX4_change_X4_gaps : GoodIn wsX4_change (va_wsS RX4 102 yX4_gaps wsX4_gaps) := goodIn_app (goodIn_of _ (by decide +kernel)) ggX4_change_X4_gaps
set_option maxRecDepth 20000 in
theorem ggX4_change_X3_change : GoodIn wsX4_change wsX3_change := goodIn_ca (goodIn_ca (goodIn_r _ [43, 44, 45, 46, 42, 47, 48, 49, 50, 51, 52, 53, 54, 55, 56, 57, 58, 59, 60, 61, 62, 63, 64, 65, 66, 67, 68, 69, 70, 71, 72, 73, 74, 75, 76, 77, 78, 79, 80, 81, 82, 83, 84, 85, 86, 87, 88, 89, 90, 91, 92, 93, 94, 95, 96, 97, 98, 99, 100, 101, 102, 103, 104, 105, 106, 107, 108, 109, 110, 111, 112, 113, 114, 115, 116, 117, 118, 119, 120, 121, 122, 123, 124, 125, 126, 127, 128, 129, 130, 131, 132, 133, 134, 135, 136, 137, 138, 139, 140, 141, 142, 4, 5, 6, 143, 144, 145, 146, 147, 148, 149, 150, 151, 152, 153, 154, 155, 156, 165, 166, 167, 168, 169, 170, 171, 172, 173, 174] (by decide +kernel) (by decide +kernel)) (goodIn_sub (fun _ h => List.mem_cons_of_mem _ (List.mem_append_left _ (List.mem_append_right _ h))) (by decide +kernel))) (goodIn_sub (fun _ h => List.mem_cons_of_mem _ (List.mem_append_right _ h)) (by decide +kernel))
set_option maxRecDepth 20000 in
theorem gX4_change_X3_change : GoodIn wsX4_change (wsV RX4 106 RX3 yX3_change wsX3_change) := goodIn_app (goodIn_of _ (by decide +kernel)) ggX4_change_X3_change
set_option maxRecDepth 20000 in
theorem ggX4_change_X4_count : GoodIn wsX4_change wsX4_count := goodIn_r _ [159] (by decide +kernel) (by decide +kernel)
set_option maxRecDepth 20000 in
theorem gX4_change_X4_count : GoodIn wsX4_change (va_wsS RX4 98 yX4_count wsX4_count) := goodIn_app (goodIn_of _ (by decide +kernel)) ggX4_change_X4_count
theorem dX4_change_0 : decode cX4_change 0 = .ok (.aload_n 0, 1) := by decide +kernel
theorem dX4_change_1 : decode cX4_change 1 = .ok (.bipush 8, 2) := by decide +kernel
theorem dX4_change_3 : decode cX4_change 3 = .ok (.invokevirtual 62, 3) := by decide +kernel
theorem dX4_change_6 : decode cX4_change 6 = .ok (.istore_n 1, 1) := by decide +kernel
theorem dX4_change_7 : decode cX4_change 7 = .ok (.aload_n 0, 1) := by decide +kernel
theorem dX4_change_8 : decode cX4_change 8 = .ok (.bipush 8, 2) := by decide +kernel
theorem dX4_change_10 : decode cX4_change 10 = .ok (.invokevirtual 62, 3) := by decide +kernel
theorem dX4_change_13 : decode cX4_change 13 = .ok (.istore_n 2, 1) := by decide +kernel
theorem dX4_change_14 : decode cX4_change 14 = .ok (.aload_n 0, 1) := by decide +kernel
theorem dX4_change_15 : decode cX4_change 15 = .ok (.getfield 18, 3) := by decide +kernel
theorem dX4_change_18 : decode cX4_change 18 = .ok (.iload_n 1, 1) := by decide +kernel
theorem dX4_change_19 : decode cX4_change 19 = .ok (.aaload, 1) := by decide +kernel
theorem dX4_change_20 : decode cX4_change 20 = .ok (.astore_n 3, 1) := by decide +kernel
theorem dX4_change_21 : decode cX4_change 21 = .ok (.iconst 0, 1) := by decide +kernel
theorem dX4_change_22 : decode cX4_change 22 = .ok (.anewarray 44, 3) := by decide +kernel
theorem dX4_change_25 : decode cX4_change 25 = .ok (.astore 4, 2) := by decide +kernel
theorem dX4_change_27 : decode cX4_change 27 = .ok (.iconst 0, 1) := by decide +kernel
theorem dX4_change_28 : decode cX4_change 28 = .ok (.istore 5, 2) := by decide +kernel
theorem dX4_change_30 : decode cX4_change 30 = .ok (.aload_n 3, 1) := by decide +kernel
theorem dX4_change_31 : decode cX4_change 31 = .ok (.astore 6, 2) := by decide +kernel
theorem dX4_change_33 : decode cX4_change 33 = .ok (.aload 6, 2) := by decide +kernel
theorem dX4_change_35 : decode cX4_change 35 = .ok (.arraylength, 1) := by decide +kernel
theorem dX4_change_36 : decode cX4_change 36 = .ok (.istore 7, 2) := by decide +kernel
theorem dX4_change_38 : decode cX4_change 38 = .ok (.iconst 0, 1) := by decide +kernel
theorem dX4_change_39 : decode cX4_change 39 = .ok (.istore 8, 2) := by decide +kernel
theorem dX4_change_41 : decode cX4_change 41 = .ok (.iload 8, 2) := by decide +kernel
theorem dX4_change_43 : decode cX4_change 43 = .ok (.iload 7, 2) := by decide +kernel
theorem dX4_change_45 : decode cX4_change 45 = .ok (.if_icmp .ge 34, 3) := by decide +kernel
theorem dX4_change_48 : decode cX4_change 48 = .ok (.aload 6, 2) := by decide +kernel
theorem dX4_change_50 : decode cX4_change 50 = .ok (.iload 8, 2) := by decide +kernel
theorem dX4_change_52 : decode cX4_change 52 = .ok (.aaload, 1) := by decide +kernel
theorem dX4_change_53 : decode cX4_change 53 = .ok (.astore 9, 2) := by decide +kernel
theorem dX4_change_55 : decode cX4_change 55 = .ok (.iload 5, 2) := by decide +kernel
theorem dX4_change_57 : decode cX4_change 57 = .ok (.aload 9, 2) := by decide +kernel
theorem dX4_change_59 : decode cX4_change 59 = .ok (.invokestatic 55, 3) := by decide +kernel
theorem dX4_change_62 : decode cX4_change 62 = .ok (.aload 9, 2) := by decide +kernel
theorem dX4_change_64 : decode cX4_change 64 = .ok (.invokestatic 59, 3) := by decide +kernel
theorem dX4_change_67 : decode cX4_change 67 = .ok (.isub, 1) := by decide +kernel
theorem dX4_change_68 : decode cX4_change 68 = .ok (.invokestatic 71, 3) := by decide +kernel
theorem dX4_change_71 : decode cX4_change 71 = .ok (.istore 5, 2) := by decide +kernel
theorem dX4_change_73 : decode cX4_change 73 = .ok (.iinc 8 1, 3) := by decide +kernel
theorem dX4_change_76 : decode cX4_change 76 = .ok (.goto (-35), 3) := by decide +kernel
theorem dX4_change_79 : decode cX4_change 79 = .ok (.iconst 0, 1) := by decide +kernel
theorem dX4_change_80 : decode cX4_change 80 = .ok (.istore 6, 2) := by decide +kernel
theorem dX4_change_82 : decode cX4_change 82 = .ok (.iload 6, 2) := by decide +kernel
theorem dX4_change_84 : decode cX4_change 84 = .ok (.aload_n 3, 1) := by decide +kernel
theorem dX4_change_85 : decode cX4_change 85 = .ok (.arraylength, 1) := by decide +kernel
theorem dX4_change_86 : decode cX4_change 86 = .ok (.if_icmp .ge 364, 3) := by decide +kernel
theorem dX4_change_89 : decode cX4_change 89 = .ok (.iconst 2, 1) := by decide +kernel
theorem dX4_change_90 : decode cX4_change 90 = .ok (.newarray .int, 2) := by decide +kernel
theorem dX4_change_92 : decode cX4_change 92 = .ok (.dup, 1) := by decide +kernel
theorem dX4_change_93 : decode cX4_change 93 = .ok (.iconst 0, 1) := by decide +kernel
theorem dX4_change_94 : decode cX4_change 94 = .ok (.aload_n 3, 1) := by decide +kernel
theorem dX4_change_95 : decode cX4_change 95 = .ok (.iload 6, 2) := by decide +kernel
theorem dX4_change_97 : decode cX4_change 97 = .ok (.aaload, 1) := by decide +kernel
theorem dX4_change_98 : decode cX4_change 98 = .ok (.iconst 0, 1) := by decide +kernel
theorem dX4_change_99 : decode cX4_change 99 = .ok (.iaload, 1) := by decide +kernel
theorem dX4_change_100 : decode cX4_change 100 = .ok (.iastore, 1) := by decide +kernel
theorem dX4_change_101 : decode cX4_change 101 = .ok (.dup, 1) := by decide +kernel
theorem dX4_change_102 : decode cX4_change 102 = .ok (.iconst 1, 1) := by decide +kernel
theorem dX4_change_103 : decode cX4_change 103 = .ok (.aload_n 3, 1) := by decide +kernel
theorem dX4_change_104 : decode cX4_change 104 = .ok (.iload 6, 2) := by decide +kernel
theorem dX4_change_106 : decode cX4_change 106 = .ok (.aaload, 1) := by decide +kernel
theorem dX4_change_107 : decode cX4_change 107 = .ok (.iconst 1, 1) := by decide +kernel
theorem dX4_change_108 : decode cX4_change 108 = .ok (.iaload, 1) := by decide +kernel
theorem dX4_change_109 : decode cX4_change 109 = .ok (.iastore, 1) := by decide +kernel
theorem dX4_change_110 : decode cX4_change 110 = .ok (.astore 7, 2) := by decide +kernel
theorem dX4_change_112 : decode cX4_change 112 = .ok (.iload_n 2, 1) := by decide +kernel
theorem dX4_change_113 : decode cX4_change 113 = .ok (.iconst 1, 1) := by decide +kernel
theorem dX4_change_114 : decode cX4_change 114 = .ok (.if_icmp .ne 123, 3) := by decide +kernel
theorem dX4_change_117 : decode cX4_change 117 = .ok (.aload 7, 2) := by decide +kernel
theorem dX4_change_119 : decode cX4_change 119 = .ok (.iconst 0, 1) := by decide +kernel
theorem dX4_change_120 : decode cX4_change 120 = .ok (.dup2, 1) := by decide +kernel
theorem dX4_change_121 : decode cX4_change 121 = .ok (.iaload, 1) := by decide +kernel
theorem dX4_change_122 : decode cX4_change 122 = .ok (.aload 7, 2) := by decide +kernel
theorem dX4_change_124 : decode cX4_change 124 = .ok (.iconst 0, 1) := by decide +kernel
theorem dX4_change_125 : decode cX4_change 125 = .ok (.iaload, 1) := by decide +kernel
theorem dX4_change_126 : decode cX4_change 126 = .ok (.iconst 2, 1) := by decide +kernel
theorem dX4_change_127 : decode cX4_change 127 = .ok (.irem, 1) := by decide +kernel
theorem dX4_change_128 : decode cX4_change 128 = .ok (.ifCond .ne 14, 3) := by decide +kernel
theorem dX4_change_131 : decode cX4_change 131 = .ok (.aload 7, 2) := by decide +kernel
theorem dX4_change_133 : decode cX4_change 133 = .ok (.iconst 0, 1) := by decide +kernel
theorem dX4_change_134 : decode cX4_change 134 = .ok (.iaload, 1) := by decide +kernel
theorem dX4_change_135 : decode cX4_change 135 = .ok (.ifCond .le 7, 3) := by decide +kernel
theorem dX4_change_138 : decode cX4_change 138 = .ok (.iconst 1, 1) := by decide +kernel
theorem dX4_change_139 : decode cX4_change 139 = .ok (.goto 4, 3) := by decide +kernel
theorem dX4_change_142 : decode cX4_change 142 = .ok (.iconst 0, 1) := by decide +kernel
theorem dX4_change_143 : decode cX4_change 143 = .ok (.iadd, 1) := by decide +kernel
theorem dX4_change_144 : decode cX4_change 144 = .ok (.iastore, 1) := by decide +kernel
theorem dX4_change_145 : decode cX4_change 145 = .ok (.aload 7, 2) := by decide +kernel
theorem dX4_change_147 : decode cX4_change 147 = .ok (.iconst 1, 1) := by decide +kernel
theorem dX4_change_148 : decode cX4_change 148 = .ok (.dup2, 1) := by decide +kernel
theorem dX4_change_149 : decode cX4_change 149 = .ok (.iaload, 1) := by decide +kernel
theorem dX4_change_150 : decode cX4_change 150 = .ok (.aload 7, 2) := by decide +kernel
theorem dX4_change_152 : decode cX4_change 152 = .ok (.iconst 1, 1) := by decide +kernel
theorem dX4_change_153 : decode cX4_change 153 = .ok (.iaload, 1) := by decide +kernel
theorem dX4_change_154 : decode cX4_change 154 = .ok (.iconst 2, 1) := by decide +kernel
theorem dX4_change_155 : decode cX4_change 155 = .ok (.irem, 1) := by decide +kernel
theorem dX4_change_156 : decode cX4_change 156 = .ok (.ifCond .ne 17, 3) := by decide +kernel
theorem dX4_change_159 : decode cX4_change 159 = .ok (.aload 7, 2) := by decide +kernel
theorem dX4_change_161 : decode cX4_change 161 = .ok (.iconst 1, 1) := by decide +kernel
theorem dX4_change_162 : decode cX4_change 162 = .ok (.iaload, 1) := by decide +kernel
theorem dX4_change_163 : decode cX4_change 163 = .ok (.sipush 200, 3) := by decide +kernel
theorem dX4_change_166 : decode cX4_change 166 = .ok (.if_icmp .ge 7, 3) := by decide +kernel
theorem dX4_change_169 : decode cX4_change 169 = .ok (.iconst 1, 1) := by decide +kernel
theorem dX4_change_170 : decode cX4_change 170 = .ok (.goto 4, 3) := by decide +kernel
theorem dX4_change_173 : decode cX4_change 173 = .ok (.iconst 0, 1) := by decide +kernel
theorem dX4_change_174 : decode cX4_change 174 = .ok (.isub, 1) := by decide +kernel
theorem dX4_change_175 : decode cX4_change 175 = .ok (.iastore, 1) := by decide +kernel
theorem dX4_change_176 : decode cX4_change 176 = .ok (.aload 7, 2) := by decide +kernel
theorem dX4_change_178 : decode cX4_change 178 = .ok (.iconst 0, 1) := by decide +kernel
theorem dX4_change_179 : decode cX4_change 179 = .ok (.iaload, 1) := by decide +kernel
theorem dX4_change_180 : decode cX4_change 180 = .ok (.ifCond .ne 12, 3) := by decide +kernel
theorem dX4_change_183 : decode cX4_change 183 = .ok (.aload_n 3, 1) := by decide +kernel
theorem dX4_change_184 : decode cX4_change 184 = .ok (.iload 6, 2) := by decide +kernel
theorem dX4_change_186 : decode cX4_change 186 = .ok (.aaload, 1) := by decide +kernel
theorem dX4_change_187 : decode cX4_change 187 = .ok (.iconst 1, 1) := by decide +kernel
theorem dX4_change_188 : decode cX4_change 188 = .ok (.iaload, 1) := by decide +kernel
theorem dX4_change_189 : decode cX4_change 189 = .ok (.ifCond .eq 255, 3) := by decide +kernel
theorem dX4_change_192 : decode cX4_change 192 = .ok (.aload 7, 2) := by decide +kernel
theorem dX4_change_194 : decode cX4_change 194 = .ok (.iconst 1, 1) := by decide +kernel
theorem dX4_change_195 : decode cX4_change 195 = .ok (.iaload, 1) := by decide +kernel
theorem dX4_change_196 : decode cX4_change 196 = .ok (.sipush 200, 3) := by decide +kernel
theorem dX4_change_199 : decode cX4_change 199 = .ok (.if_icmp .ne 18, 3) := by decide +kernel
theorem dX4_change_202 : decode cX4_change 202 = .ok (.aload_n 3, 1) := by decide +kernel
theorem dX4_change_203 : decode cX4_change 203 = .ok (.iload 6, 2) := by decide +kernel
theorem dX4_change_205 : decode cX4_change 205 = .ok (.aaload, 1) := by decide +kernel
theorem dX4_change_206 : decode cX4_change 206 = .ok (.iconst 0, 1) := by decide +kernel
theorem dX4_change_207 : decode cX4_change 207 = .ok (.iaload, 1) := by decide +kernel
theorem dX4_change_208 : decode cX4_change 208 = .ok (.sipush 200, 3) := by decide +kernel
theorem dX4_change_211 : decode cX4_change 211 = .ok (.if_icmp .ne 6, 3) := by decide +kernel
theorem dX4_change_214 : decode cX4_change 214 = .ok (.goto 230, 3) := by decide +kernel
theorem dX4_change_217 : decode cX4_change 217 = .ok (.aload 7, 2) := by decide +kernel
theorem dX4_change_219 : decode cX4_change 219 = .ok (.iconst 1, 1) := by decide +kernel
theorem dX4_change_220 : decode cX4_change 220 = .ok (.iaload, 1) := by decide +kernel
theorem dX4_change_221 : decode cX4_change 221 = .ok (.aload 7, 2) := by decide +kernel
theorem dX4_change_223 : decode cX4_change 223 = .ok (.iconst 0, 1) := by decide +kernel
theorem dX4_change_224 : decode cX4_change 224 = .ok (.iaload, 1) := by decide +kernel
theorem dX4_change_225 : decode cX4_change 225 = .ok (.if_icmp .lt 12, 3) := by decide +kernel
theorem dX4_change_228 : decode cX4_change 228 = .ok (.aload 4, 2) := by decide +kernel
theorem dX4_change_230 : decode cX4_change 230 = .ok (.aload 7, 2) := by decide +kernel
theorem dX4_change_232 : decode cX4_change 232 = .ok (.invokestatic 51, 3) := by decide +kernel
theorem dX4_change_235 : decode cX4_change 235 = .ok (.astore 4, 2) := by decide +kernel
theorem dX4_change_237 : decode cX4_change 237 = .ok (.iload_n 2, 1) := by decide +kernel
theorem dX4_change_238 : decode cX4_change 238 = .ok (.iconst 2, 1) := by decide +kernel
theorem dX4_change_239 : decode cX4_change 239 = .ok (.if_icmp .ne 80, 3) := by decide +kernel
theorem dX4_change_242 : decode cX4_change 242 = .ok (.aload 7, 2) := by decide +kernel
theorem dX4_change_244 : decode cX4_change 244 = .ok (.iconst 0, 1) := by decide +kernel
theorem dX4_change_245 : decode cX4_change 245 = .ok (.dup2, 1) := by decide +kernel
theorem dX4_change_246 : decode cX4_change 246 = .ok (.iaload, 1) := by decide +kernel
theorem dX4_change_247 : decode cX4_change 247 = .ok (.aload 7, 2) := by decide +kernel
theorem dX4_change_249 : decode cX4_change 249 = .ok (.iconst 0, 1) := by decide +kernel
theorem dX4_change_250 : decode cX4_change 250 = .ok (.iaload, 1) := by decide +kernel
theorem dX4_change_251 : decode cX4_change 251 = .ok (.iconst 2, 1) := by decide +kernel
theorem dX4_change_252 : decode cX4_change 252 = .ok (.irem, 1) := by decide +kernel
theorem dX4_change_253 : decode cX4_change 253 = .ok (.isub, 1) := by decide +kernel
theorem dX4_change_254 : decode cX4_change 254 = .ok (.iastore, 1) := by decide +kernel
theorem dX4_change_255 : decode cX4_change 255 = .ok (.aload 7, 2) := by decide +kernel
theorem dX4_change_257 : decode cX4_change 257 = .ok (.iconst 1, 1) := by decide +kernel
theorem dX4_change_258 : decode cX4_change 258 = .ok (.dup2, 1) := by decide +kernel
theorem dX4_change_259 : decode cX4_change 259 = .ok (.iaload, 1) := by decide +kernel
theorem dX4_change_260 : decode cX4_change 260 = .ok (.aload 7, 2) := by decide +kernel
theorem dX4_change_262 : decode cX4_change 262 = .ok (.iconst 1, 1) := by decide +kernel
theorem dX4_change_263 : decode cX4_change 263 = .ok (.iaload, 1) := by decide +kernel
theorem dX4_change_264 : decode cX4_change 264 = .ok (.iconst 2, 1) := by decide +kernel
theorem dX4_change_265 : decode cX4_change 265 = .ok (.irem, 1) := by decide +kernel
theorem dX4_change_266 : decode cX4_change 266 = .ok (.iadd, 1) := by decide +kernel
theorem dX4_change_267 : decode cX4_change 267 = .ok (.iastore, 1) := by decide +kernel
theorem dX4_change_268 : decode cX4_change 268 = .ok (.aload 4, 2) := by decide +kernel
theorem dX4_change_270 : decode cX4_change 270 = .ok (.arraylength, 1) := by decide +kernel
theorem dX4_change_271 : decode cX4_change 271 = .ok (.ifCond .le 39, 3) := by decide +kernel
theorem dX4_change_274 : decode cX4_change 274 = .ok (.aload 7, 2) := by decide +kernel
theorem dX4_change_276 : decode cX4_change 276 = .ok (.iconst 0, 1) := by decide +kernel
theorem dX4_change_277 : decode cX4_change 277 = .ok (.iaload, 1) := by decide +kernel
theorem dX4_change_278 : decode cX4_change 278 = .ok (.aload 4, 2) := by decide +kernel
theorem dX4_change_280 : decode cX4_change 280 = .ok (.aload 4, 2) := by decide +kernel
theorem dX4_change_282 : decode cX4_change 282 = .ok (.arraylength, 1) := by decide +kernel
theorem dX4_change_283 : decode cX4_change 283 = .ok (.iconst 1, 1) := by decide +kernel
theorem dX4_change_284 : decode cX4_change 284 = .ok (.isub, 1) := by decide +kernel
theorem dX4_change_285 : decode cX4_change 285 = .ok (.aaload, 1) := by decide +kernel
theorem dX4_change_286 : decode cX4_change 286 = .ok (.iconst 1, 1) := by decide +kernel
theorem dX4_change_287 : decode cX4_change 287 = .ok (.iaload, 1) := by decide +kernel
theorem dX4_change_288 : decode cX4_change 288 = .ok (.iconst 1, 1) := by decide +kernel
theorem dX4_change_289 : decode cX4_change 289 = .ok (.iadd, 1) := by decide +kernel
theorem dX4_change_290 : decode cX4_change 290 = .ok (.if_icmp .gt 20, 3) := by decide +kernel
theorem dX4_change_293 : decode cX4_change 293 = .ok (.aload 4, 2) := by decide +kernel
theorem dX4_change_295 : decode cX4_change 295 = .ok (.aload 4, 2) := by decide +kernel
theorem dX4_change_297 : decode cX4_change 297 = .ok (.arraylength, 1) := by decide +kernel
theorem dX4_change_298 : decode cX4_change 298 = .ok (.iconst 1, 1) := by decide +kernel
theorem dX4_change_299 : decode cX4_change 299 = .ok (.isub, 1) := by decide +kernel
theorem dX4_change_300 : decode cX4_change 300 = .ok (.aaload, 1) := by decide +kernel
theorem dX4_change_301 : decode cX4_change 301 = .ok (.iconst 1, 1) := by decide +kernel
theorem dX4_change_302 : decode cX4_change 302 = .ok (.aload 7, 2) := by decide +kernel
theorem dX4_change_304 : decode cX4_change 304 = .ok (.iconst 1, 1) := by decide +kernel
theorem dX4_change_305 : decode cX4_change 305 = .ok (.iaload, 1) := by decide +kernel
theorem dX4_change_306 : decode cX4_change 306 = .ok (.iastore, 1) := by decide +kernel
theorem dX4_change_307 : decode cX4_change 307 = .ok (.goto 12, 3) := by decide +kernel
theorem dX4_change_310 : decode cX4_change 310 = .ok (.aload 4, 2) := by decide +kernel
theorem dX4_change_312 : decode cX4_change 312 = .ok (.aload 7, 2) := by decide +kernel
theorem dX4_change_314 : decode cX4_change 314 = .ok (.invokestatic 51, 3) := by decide +kernel
theorem dX4_change_317 : decode cX4_change 317 = .ok (.astore 4, 2) := by decide +kernel
theorem dX4_change_319 : decode cX4_change 319 = .ok (.iload_n 2, 1) := by decide +kernel
theorem dX4_change_320 : decode cX4_change 320 = .ok (.iconst 3, 1) := by decide +kernel
theorem dX4_change_321 : decode cX4_change 321 = .ok (.if_icmp .ne 32, 3) := by decide +kernel
theorem dX4_change_324 : decode cX4_change 324 = .ok (.aload 7, 2) := by decide +kernel
theorem dX4_change_326 : decode cX4_change 326 = .ok (.iconst 0, 1) := by decide +kernel
theorem dX4_change_327 : decode cX4_change 327 = .ok (.iaload, 1) := by decide +kernel
theorem dX4_change_328 : decode cX4_change 328 = .ok (.aload 7, 2) := by decide +kernel
theorem dX4_change_330 : decode cX4_change 330 = .ok (.iconst 1, 1) := by decide +kernel
theorem dX4_change_331 : decode cX4_change 331 = .ok (.iaload, 1) := by decide +kernel
theorem dX4_change_332 : decode cX4_change 332 = .ok (.if_icmp .ne 21, 3) := by decide +kernel
theorem dX4_change_335 : decode cX4_change 335 = .ok (.aload 7, 2) := by decide +kernel
theorem dX4_change_337 : decode cX4_change 337 = .ok (.iconst 0, 1) := by decide +kernel
theorem dX4_change_338 : decode cX4_change 338 = .ok (.iaload, 1) := by decide +kernel
theorem dX4_change_339 : decode cX4_change 339 = .ok (.iconst 2, 1) := by decide +kernel
theorem dX4_change_340 : decode cX4_change 340 = .ok (.irem, 1) := by decide +kernel
theorem dX4_change_341 : decode cX4_change 341 = .ok (.ifCond .ne 12, 3) := by decide +kernel
theorem dX4_change_344 : decode cX4_change 344 = .ok (.aload 4, 2) := by decide +kernel
theorem dX4_change_346 : decode cX4_change 346 = .ok (.aload 7, 2) := by decide +kernel
theorem dX4_change_348 : decode cX4_change 348 = .ok (.invokestatic 51, 3) := by decide +kernel
theorem dX4_change_351 : decode cX4_change 351 = .ok (.astore 4, 2) := by decide +kernel
theorem dX4_change_353 : decode cX4_change 353 = .ok (.iload_n 2, 1) := by decide +kernel
theorem dX4_change_354 : decode cX4_change 354 = .ok (.iconst 4, 1) := by decide +kernel
theorem dX4_change_355 : decode cX4_change 355 = .ok (.if_icmp .ne 53, 3) := by decide +kernel
theorem dX4_change_358 : decode cX4_change 358 = .ok (.iconst 2, 1) := by decide +kernel
theorem dX4_change_359 : decode cX4_change 359 = .ok (.newarray .int, 2) := by decide +kernel
theorem dX4_change_361 : decode cX4_change 361 = .ok (.dup, 1) := by decide +kernel
theorem dX4_change_362 : decode cX4_change 362 = .ok (.iconst 0, 1) := by decide +kernel
theorem dX4_change_363 : decode cX4_change 363 = .ok (.sipush 200, 3) := by decide +kernel
theorem dX4_change_366 : decode cX4_change 366 = .ok (.aload_n 3, 1) := by decide +kernel
theorem dX4_change_367 : decode cX4_change 367 = .ok (.aload_n 3, 1) := by decide +kernel
theorem dX4_change_368 : decode cX4_change 368 = .ok (.arraylength, 1) := by decide +kernel
theorem dX4_change_369 : decode cX4_change 369 = .ok (.iconst 1, 1) := by decide +kernel
theorem dX4_change_370 : decode cX4_change 370 = .ok (.isub, 1) := by decide +kernel
theorem dX4_change_371 : decode cX4_change 371 = .ok (.iload 6, 2) := by decide +kernel
theorem dX4_change_373 : decode cX4_change 373 = .ok (.isub, 1) := by decide +kernel
theorem dX4_change_374 : decode cX4_change 374 = .ok (.aaload, 1) := by decide +kernel
theorem dX4_change_375 : decode cX4_change 375 = .ok (.iconst 1, 1) := by decide +kernel
theorem dX4_change_376 : decode cX4_change 376 = .ok (.iaload, 1) := by decide +kernel
theorem dX4_change_377 : decode cX4_change 377 = .ok (.isub, 1) := by decide +kernel
theorem dX4_change_378 : decode cX4_change 378 = .ok (.iastore, 1) := by decide +kernel
theorem dX4_change_379 : decode cX4_change 379 = .ok (.dup, 1) := by decide +kernel
theorem dX4_change_380 : decode cX4_change 380 = .ok (.iconst 1, 1) := by decide +kernel
theorem dX4_change_381 : decode cX4_change 381 = .ok (.sipush 200, 3) := by decide +kernel
theorem dX4_change_384 : decode cX4_change 384 = .ok (.aload_n 3, 1) := by decide +kernel
theorem dX4_change_385 : decode cX4_change 385 = .ok (.aload_n 3, 1) := by decide +kernel
theorem dX4_change_386 : decode cX4_change 386 = .ok (.arraylength, 1) := by decide +kernel
theorem dX4_change_387 : decode cX4_change 387 = .ok (.iconst 1, 1) := by decide +kernel
theorem dX4_change_388 : decode cX4_change 388 = .ok (.isub, 1) := by decide +kernel
theorem dX4_change_389 : decode cX4_change 389 = .ok (.iload 6, 2) := by decide +kernel
theorem dX4_change_391 : decode cX4_change 391 = .ok (.isub, 1) := by decide +kernel
theorem dX4_change_392 : decode cX4_change 392 = .ok (.aaload, 1) := by decide +kernel
theorem dX4_change_393 : decode cX4_change 393 = .ok (.iconst 0, 1) := by decide +kernel
theorem dX4_change_394 : decode cX4_change 394 = .ok (.iaload, 1) := by decide +kernel
theorem dX4_change_395 : decode cX4_change 395 = .ok (.isub, 1) := by decide +kernel
theorem dX4_change_396 : decode cX4_change 396 = .ok (.iastore, 1) := by decide +kernel
theorem dX4_change_397 : decode cX4_change 397 = .ok (.astore 8, 2) := by decide +kernel
theorem dX4_change_399 : decode cX4_change 399 = .ok (.aload 4, 2) := by decide +kernel
theorem dX4_change_401 : decode cX4_change 401 = .ok (.aload 8, 2) := by decide +kernel
theorem dX4_change_403 : decode cX4_change 403 = .ok (.invokestatic 51, 3) := by decide +kernel
theorem dX4_change_406 : decode cX4_change 406 = .ok (.astore 4, 2) := by decide +kernel
theorem dX4_change_408 : decode cX4_change 408 = .ok (.iload_n 2, 1) := by decide +kernel
theorem dX4_change_409 : decode cX4_change 409 = .ok (.iconst 5, 1) := by decide +kernel
theorem dX4_change_410 : decode cX4_change 410 = .ok (.if_icmp .ne 34, 3) := by decide +kernel
theorem dX4_change_413 : decode cX4_change 413 = .ok (.aload 4, 2) := by decide +kernel
theorem dX4_change_415 : decode cX4_change 415 = .ok (.arraylength, 1) := by decide +kernel
theorem dX4_change_416 : decode cX4_change 416 = .ok (.ifCond .ne 28, 3) := by decide +kernel
theorem dX4_change_419 : decode cX4_change 419 = .ok (.aload 7, 2) := by decide +kernel
theorem dX4_change_421 : decode cX4_change 421 = .ok (.invokestatic 55, 3) := by decide +kernel
theorem dX4_change_424 : decode cX4_change 424 = .ok (.aload 7, 2) := by decide +kernel
theorem dX4_change_426 : decode cX4_change 426 = .ok (.invokestatic 59, 3) := by decide +kernel
theorem dX4_change_429 : decode cX4_change 429 = .ok (.isub, 1) := by decide +kernel
theorem dX4_change_430 : decode cX4_change 430 = .ok (.iload 5, 2) := by decide +kernel
theorem dX4_change_432 : decode cX4_change 432 = .ok (.if_icmp .ne 12, 3) := by decide +kernel
theorem dX4_change_435 : decode cX4_change 435 = .ok (.aload 4, 2) := by decide +kernel
theorem dX4_change_437 : decode cX4_change 437 = .ok (.aload 7, 2) := by decide +kernel
theorem dX4_change_439 : decode cX4_change 439 = .ok (.invokestatic 51, 3) := by decide +kernel
theorem dX4_change_442 : decode cX4_change 442 = .ok (.astore 4, 2) := by decide +kernel
theorem dX4_change_444 : decode cX4_change 444 = .ok (.iinc 6 1, 3) := by decide +kernel
theorem dX4_change_447 : decode cX4_change 447 = .ok (.goto (-365), 3) := by decide +kernel
theorem dX4_change_450 : decode cX4_change 450 = .ok (.iload_n 2, 1) := by decide +kernel
theorem dX4_change_451 : decode cX4_change 451 = .ok (.ifCond .ne 9, 3) := by decide +kernel
theorem dX4_change_454 : decode cX4_change 454 = .ok (.aload_n 3, 1) := by decide +kernel
theorem dX4_change_455 : decode cX4_change 455 = .ok (.invokestatic 102, 3) := by decide +kernel
theorem dX4_change_458 : decode cX4_change 458 = .ok (.astore 4, 2) := by decide +kernel
theorem dX4_change_460 : decode cX4_change 460 = .ok (.iload_n 2, 1) := by decide +kernel
theorem dX4_change_461 : decode cX4_change 461 = .ok (.bipush 6, 2) := by decide +kernel
theorem dX4_change_463 : decode cX4_change 463 = .ok (.if_icmp .ne 41, 3) := by decide +kernel
theorem dX4_change_466 : decode cX4_change 466 = .ok (.aload_n 3, 1) := by decide +kernel
theorem dX4_change_467 : decode cX4_change 467 = .ok (.arraylength, 1) := by decide +kernel
theorem dX4_change_468 : decode cX4_change 468 = .ok (.ifCond .le 36, 3) := by decide +kernel
theorem dX4_change_471 : decode cX4_change 471 = .ok (.iconst 2, 1) := by decide +kernel
theorem dX4_change_472 : decode cX4_change 472 = .ok (.newarray .int, 2) := by decide +kernel
theorem dX4_change_474 : decode cX4_change 474 = .ok (.dup, 1) := by decide +kernel
theorem dX4_change_475 : decode cX4_change 475 = .ok (.iconst 0, 1) := by decide +kernel
theorem dX4_change_476 : decode cX4_change 476 = .ok (.aload_n 3, 1) := by decide +kernel
theorem dX4_change_477 : decode cX4_change 477 = .ok (.iconst 0, 1) := by decide +kernel
theorem dX4_change_478 : decode cX4_change 478 = .ok (.aaload, 1) := by decide +kernel
theorem dX4_change_479 : decode cX4_change 479 = .ok (.iconst 0, 1) := by decide +kernel
theorem dX4_change_480 : decode cX4_change 480 = .ok (.iaload, 1) := by decide +kernel
theorem dX4_change_481 : decode cX4_change 481 = .ok (.iastore, 1) := by decide +kernel
theorem dX4_change_482 : decode cX4_change 482 = .ok (.dup, 1) := by decide +kernel
theorem dX4_change_483 : decode cX4_change 483 = .ok (.iconst 1, 1) := by decide +kernel
theorem dX4_change_484 : decode cX4_change 484 = .ok (.aload_n 3, 1) := by decide +kernel
theorem dX4_change_485 : decode cX4_change 485 = .ok (.aload_n 3, 1) := by decide +kernel
theorem dX4_change_486 : decode cX4_change 486 = .ok (.arraylength, 1) := by decide +kernel
theorem dX4_change_487 : decode cX4_change 487 = .ok (.iconst 1, 1) := by decide +kernel
theorem dX4_change_488 : decode cX4_change 488 = .ok (.isub, 1) := by decide +kernel
theorem dX4_change_489 : decode cX4_change 489 = .ok (.aaload, 1) := by decide +kernel
theorem dX4_change_490 : decode cX4_change 490 = .ok (.iconst 1, 1) := by decide +kernel
theorem dX4_change_491 : decode cX4_change 491 = .ok (.iaload, 1) := by decide +kernel
theorem dX4_change_492 : decode cX4_change 492 = .ok (.iastore, 1) := by decide +kernel
theorem dX4_change_493 : decode cX4_change 493 = .ok (.astore 6, 2) := by decide +kernel
theorem dX4_change_495 : decode cX4_change 495 = .ok (.aload 4, 2) := by decide +kernel
theorem dX4_change_497 : decode cX4_change 497 = .ok (.aload 6, 2) := by decide +kernel
theorem dX4_change_499 : decode cX4_change 499 = .ok (.invokestatic 51, 3) := by decide +kernel
theorem dX4_change_502 : decode cX4_change 502 = .ok (.astore 4, 2) := by decide +kernel
theorem dX4_change_504 : decode cX4_change 504 = .ok (.aload_n 0, 1) := by decide +kernel
theorem dX4_change_505 : decode cX4_change 505 = .ok (.getfield 18, 3) := by decide +kernel
theorem dX4_change_508 : decode cX4_change 508 = .ok (.iload_n 1, 1) := by decide +kernel
theorem dX4_change_509 : decode cX4_change 509 = .ok (.aload 4, 2) := by decide +kernel
theorem dX4_change_511 : decode cX4_change 511 = .ok (.aastore, 1) := by decide +kernel
theorem dX4_change_512 : decode cX4_change 512 = .ok (.aload_n 0, 1) := by decide +kernel
theorem dX4_change_513 : decode cX4_change 513 = .ok (.getfield 10, 3) := by decide +kernel
theorem dX4_change_516 : decode cX4_change 516 = .ok (.iload_n 1, 1) := by decide +kernel
theorem dX4_change_517 : decode cX4_change 517 = .ok (.iload_n 2, 1) := by decide +kernel
theorem dX4_change_518 : decode cX4_change 518 = .ok (.invokevirtual 106, 3) := by decide +kernel
theorem dX4_change_521 : decode cX4_change 521 = .ok (.aload 4, 2) := by decide +kernel
theorem dX4_change_523 : decode cX4_change 523 = .ok (.invokestatic 98, 3) := by decide +kernel
theorem dX4_change_526 : decode cX4_change 526 = .ok (.if_icmp .ne 7, 3) := by decide +kernel
theorem dX4_change_529 : decode cX4_change 529 = .ok (.iconst 1, 1) := by decide +kernel
theorem dX4_change_530 : decode cX4_change 530 = .ok (.goto 4, 3) := by decide +kernel
theorem dX4_change_533 : decode cX4_change 533 = .ok (.iconst 0, 1) := by decide +kernel
theorem dX4_change_534 : decode cX4_change 534 = .ok (.ireturn, 1) := by decide +kernel
set_option maxRecDepth 20000 in
theorem ggX4_moved_X4_with : GoodIn wsX4_moved wsX4_with := goodIn_r _ [13, 1, 14, 15, 16, 17] (by decide +kernel) (by decide +kernel)
set_option maxRecDepth 20000 in
theorem gX4_moved_X4_with : GoodIn wsX4_moved (va_wsS RX4 51 yX4_with wsX4_with) := goodIn_app (goodIn_of _ (by decide +kernel)) ggX4_moved_X4_with
theorem dX4_moved_0 : decode cX4_moved 0 = .ok (.iconst 0, 1) := by decide +kernel
theorem dX4_moved_1 : decode cX4_moved 1 = .ok (.anewarray 44, 3) := by decide +kernel
theorem dX4_moved_4 : decode cX4_moved 4 = .ok (.astore_n 2, 1) := by decide +kernel
theorem dX4_moved_5 : decode cX4_moved 5 = .ok (.aload_n 0, 1) := by decide +kernel
theorem dX4_moved_6 : decode cX4_moved 6 = .ok (.astore_n 3, 1) := by decide +kernel
theorem dX4_moved_7 : decode cX4_moved 7 = .ok (.aload_n 3, 1) := by decide +kernel
theorem dX4_moved_8 : decode cX4_moved 8 = .ok (.arraylength, 1) := by decide +kernel
theorem dX4_moved_9 : decode cX4_moved 9 = .ok (.istore 4, 2) := by decide +kernel
theorem dX4_moved_11 : decode cX4_moved 11 = .ok (.iconst 0, 1) := by decide +kernel
theorem dX4_moved_12 : decode cX4_moved 12 = .ok (.istore 5, 2) := by decide +kernel
theorem dX4_moved_14 : decode cX4_moved 14 = .ok (.iload 5, 2) := by decide +kernel
theorem dX4_moved_16 : decode cX4_moved 16 = .ok (.iload 4, 2) := by decide +kernel
theorem dX4_moved_18 : decode cX4_moved 18 = .ok (.if_icmp .ge 70, 3) := by decide +kernel
theorem dX4_moved_21 : decode cX4_moved 21 = .ok (.aload_n 3, 1) := by decide +kernel
theorem dX4_moved_22 : decode cX4_moved 22 = .ok (.iload 5, 2) := by decide +kernel
theorem dX4_moved_24 : decode cX4_moved 24 = .ok (.aaload, 1) := by decide +kernel
theorem dX4_moved_25 : decode cX4_moved 25 = .ok (.astore 6, 2) := by decide +kernel
theorem dX4_moved_27 : decode cX4_moved 27 = .ok (.iconst 2, 1) := by decide +kernel
theorem dX4_moved_28 : decode cX4_moved 28 = .ok (.newarray .int, 2) := by decide +kernel
theorem dX4_moved_30 : decode cX4_moved 30 = .ok (.dup, 1) := by decide +kernel
theorem dX4_moved_31 : decode cX4_moved 31 = .ok (.iconst 0, 1) := by decide +kernel
theorem dX4_moved_32 : decode cX4_moved 32 = .ok (.iconst 0, 1) := by decide +kernel
theorem dX4_moved_33 : decode cX4_moved 33 = .ok (.aload 6, 2) := by decide +kernel
theorem dX4_moved_35 : decode cX4_moved 35 = .ok (.iconst 0, 1) := by decide +kernel
theorem dX4_moved_36 : decode cX4_moved 36 = .ok (.iaload, 1) := by decide +kernel
theorem dX4_moved_37 : decode cX4_moved 37 = .ok (.iconst 2, 1) := by decide +kernel
theorem dX4_moved_38 : decode cX4_moved 38 = .ok (.iload_n 1, 1) := by decide +kernel
theorem dX4_moved_39 : decode cX4_moved 39 = .ok (.imul, 1) := by decide +kernel
theorem dX4_moved_40 : decode cX4_moved 40 = .ok (.iadd, 1) := by decide +kernel
theorem dX4_moved_41 : decode cX4_moved 41 = .ok (.invokestatic 71, 3) := by decide +kernel
theorem dX4_moved_44 : decode cX4_moved 44 = .ok (.iastore, 1) := by decide +kernel
theorem dX4_moved_45 : decode cX4_moved 45 = .ok (.dup, 1) := by decide +kernel
theorem dX4_moved_46 : decode cX4_moved 46 = .ok (.iconst 1, 1) := by decide +kernel
theorem dX4_moved_47 : decode cX4_moved 47 = .ok (.sipush 200, 3) := by decide +kernel
theorem dX4_moved_50 : decode cX4_moved 50 = .ok (.aload 6, 2) := by decide +kernel
theorem dX4_moved_52 : decode cX4_moved 52 = .ok (.iconst 1, 1) := by decide +kernel
theorem dX4_moved_53 : decode cX4_moved 53 = .ok (.iaload, 1) := by decide +kernel
theorem dX4_moved_54 : decode cX4_moved 54 = .ok (.iconst 2, 1) := by decide +kernel
theorem dX4_moved_55 : decode cX4_moved 55 = .ok (.iload_n 1, 1) := by decide +kernel
theorem dX4_moved_56 : decode cX4_moved 56 = .ok (.imul, 1) := by decide +kernel
theorem dX4_moved_57 : decode cX4_moved 57 = .ok (.iadd, 1) := by decide +kernel
theorem dX4_moved_58 : decode cX4_moved 58 = .ok (.invokestatic 66, 3) := by decide +kernel
theorem dX4_moved_61 : decode cX4_moved 61 = .ok (.iastore, 1) := by decide +kernel
theorem dX4_moved_62 : decode cX4_moved 62 = .ok (.astore 7, 2) := by decide +kernel
theorem dX4_moved_64 : decode cX4_moved 64 = .ok (.aload 7, 2) := by decide +kernel
theorem dX4_moved_66 : decode cX4_moved 66 = .ok (.iconst 0, 1) := by decide +kernel
theorem dX4_moved_67 : decode cX4_moved 67 = .ok (.iaload, 1) := by decide +kernel
theorem dX4_moved_68 : decode cX4_moved 68 = .ok (.aload 7, 2) := by decide +kernel
theorem dX4_moved_70 : decode cX4_moved 70 = .ok (.iconst 1, 1) := by decide +kernel
theorem dX4_moved_71 : decode cX4_moved 71 = .ok (.iaload, 1) := by decide +kernel
theorem dX4_moved_72 : decode cX4_moved 72 = .ok (.if_icmp .gt 10, 3) := by decide +kernel
theorem dX4_moved_75 : decode cX4_moved 75 = .ok (.aload_n 2, 1) := by decide +kernel
theorem dX4_moved_76 : decode cX4_moved 76 = .ok (.aload 7, 2) := by decide +kernel
theorem dX4_moved_78 : decode cX4_moved 78 = .ok (.invokestatic 51, 3) := by decide +kernel
theorem dX4_moved_81 : decode cX4_moved 81 = .ok (.astore_n 2, 1) := by decide +kernel
theorem dX4_moved_82 : decode cX4_moved 82 = .ok (.iinc 5 1, 3) := by decide +kernel
theorem dX4_moved_85 : decode cX4_moved 85 = .ok (.goto (-71), 3) := by decide +kernel
theorem dX4_moved_88 : decode cX4_moved 88 = .ok (.aload_n 2, 1) := by decide +kernel
theorem dX4_moved_89 : decode cX4_moved 89 = .ok (.areturn, 1) := by decide +kernel
set_option maxRecDepth 20000 in
theorem ggX4_move_X4_draw : GoodIn wsX4_move wsX4_draw := goodIn_r _ [7, 8, 9, 10, 11, 12, 13, 14, 15, 16, 81, 82, 83, 84, 85] (by decide +kernel) (by decide +kernel)
set_option maxRecDepth 20000 in
theorem gX4_move_X4_draw : GoodIn wsX4_move (wsV RX4 62 RX4 yX4_draw wsX4_draw) := goodIn_app (goodIn_of _ (by decide +kernel)) ggX4_move_X4_draw
set_option maxRecDepth 20000 in
theorem ggX4_move_X4_moved : GoodIn wsX4_move wsX4_moved := goodIn_r _ [19, 20, 21, 22, 23, 24, 25, 26, 27, 28, 29, 30, 6, 31, 32, 33, 34, 35] (by decide +kernel) (by decide +kernel)
set_option maxRecDepth 20000 in
theorem gX4_move_X4_moved : GoodIn wsX4_move (va_wsS RX4 109 yX4_moved wsX4_moved) := goodIn_app (goodIn_of _ (by decide +kernel)) ggX4_move_X4_moved
set_option maxRecDepth 20000 in
theorem ggX4_move_X3_move : GoodIn wsX4_move wsX3_move := goodIn_ca (goodIn_ca (goodIn_r _ [40, 41, 42, 43, 44, 39, 45, 46, 47, 48, 49, 50, 51, 52, 53, 54, 55, 56, 57, 58, 59, 60, 61, 62, 63, 64, 65, 66, 67, 68, 69, 70, 71, 72, 73, 74, 75, 76, 77, 86, 87, 88, 89, 90, 91, 92] (by decide +kernel) (by decide +kernel)) (goodIn_sub (fun _ h => List.mem_cons_of_mem _ (List.mem_append_left _ (List.mem_append_right _ h))) (by decide +kernel))) (goodIn_sub (fun _ h => List.mem_cons_of_mem _ (List.mem_append_right _ h)) (by decide +kernel))
set_option maxRecDepth 20000 in
theorem gX4_move_X3_move : GoodIn wsX4_move (wsV RX4 113 RX3 yX3_move wsX3_move) := goodIn_app (goodIn_of _ (by decide +kernel)) ggX4_move_X3_move
set_option maxRecDepth 20000 in
theorem ggX4_move_X4_count : GoodIn wsX4_move wsX4_count := goodIn_r _ [80] (by decide +kernel) (by decide +kernel)
set_option maxRecDepth 20000 in
theorem gX4_move_X4_count : GoodIn wsX4_move (va_wsS RX4 98 yX4_count wsX4_count) := goodIn_app (goodIn_of _ (by decide +kernel)) ggX4_move_X4_count
theorem dX4_move_0 : decode cX4_move 0 = .ok (.aload_n 0, 1) := by decide +kernel
theorem dX4_move_1 : decode cX4_move 1 = .ok (.bipush 8, 2) := by decide +kernel
theorem dX4_move_3 : decode cX4_move 3 = .ok (.invokevirtual 62, 3) := by decide +kernel
theorem dX4_move_6 : decode cX4_move 6 = .ok (.istore_n 1, 1) := by decide +kernel
theorem dX4_move_7 : decode cX4_move 7 = .ok (.aload_n 0, 1) := by decide +kernel
theorem dX4_move_8 : decode cX4_move 8 = .ok (.iconst 2, 1) := by decide +kernel
theorem dX4_move_9 : decode cX4_move 9 = .ok (.invokevirtual 62, 3) := by decide +kernel
theorem dX4_move_12 : decode cX4_move 12 = .ok (.ifCond .ne 15, 3) := by decide +kernel
theorem dX4_move_15 : decode cX4_move 15 = .ok (.aload_n 0, 1) := by decide +kernel
theorem dX4_move_16 : decode cX4_move 16 = .ok (.bipush 41, 2) := by decide +kernel
theorem dX4_move_18 : decode cX4_move 18 = .ok (.invokevirtual 62, 3) := by decide +kernel
theorem dX4_move_21 : decode cX4_move 21 = .ok (.bipush 20, 2) := by decide +kernel
theorem dX4_move_23 : decode cX4_move 23 = .ok (.isub, 1) := by decide +kernel
theorem dX4_move_24 : decode cX4_move 24 = .ok (.goto 13, 3) := by decide +kernel
theorem dX4_move_27 : decode cX4_move 27 = .ok (.aload_n 0, 1) := by decide +kernel
theorem dX4_move_28 : decode cX4_move 28 = .ok (.sipush 201, 3) := by decide +kernel
theorem dX4_move_31 : decode cX4_move 31 = .ok (.invokevirtual 62, 3) := by decide +kernel
theorem dX4_move_34 : decode cX4_move 34 = .ok (.bipush 100, 2) := by decide +kernel
theorem dX4_move_36 : decode cX4_move 36 = .ok (.isub, 1) := by decide +kernel
theorem dX4_move_37 : decode cX4_move 37 = .ok (.istore_n 2, 1) := by decide +kernel
theorem dX4_move_38 : decode cX4_move 38 = .ok (.aload_n 0, 1) := by decide +kernel
theorem dX4_move_39 : decode cX4_move 39 = .ok (.getfield 18, 3) := by decide +kernel
theorem dX4_move_42 : decode cX4_move 42 = .ok (.iload_n 1, 1) := by decide +kernel
theorem dX4_move_43 : decode cX4_move 43 = .ok (.aload_n 0, 1) := by decide +kernel
theorem dX4_move_44 : decode cX4_move 44 = .ok (.getfield 18, 3) := by decide +kernel
theorem dX4_move_47 : decode cX4_move 47 = .ok (.iload_n 1, 1) := by decide +kernel
theorem dX4_move_48 : decode cX4_move 48 = .ok (.aaload, 1) := by decide +kernel
theorem dX4_move_49 : decode cX4_move 49 = .ok (.iload_n 2, 1) := by decide +kernel
theorem dX4_move_50 : decode cX4_move 50 = .ok (.invokestatic 109, 3) := by decide +kernel
theorem dX4_move_53 : decode cX4_move 53 = .ok (.aastore, 1) := by decide +kernel
theorem dX4_move_54 : decode cX4_move 54 = .ok (.aload_n 0, 1) := by decide +kernel
theorem dX4_move_55 : decode cX4_move 55 = .ok (.getfield 10, 3) := by decide +kernel
theorem dX4_move_58 : decode cX4_move 58 = .ok (.iload_n 1, 1) := by decide +kernel
theorem dX4_move_59 : decode cX4_move 59 = .ok (.iload_n 2, 1) := by decide +kernel
theorem dX4_move_60 : decode cX4_move 60 = .ok (.invokevirtual 113, 3) := by decide +kernel
theorem dX4_move_63 : decode cX4_move 63 = .ok (.aload_n 0, 1) := by decide +kernel
theorem dX4_move_64 : decode cX4_move 64 = .ok (.getfield 18, 3) := by decide +kernel
theorem dX4_move_67 : decode cX4_move 67 = .ok (.iload_n 1, 1) := by decide +kernel
theorem dX4_move_68 : decode cX4_move 68 = .ok (.aaload, 1) := by decide +kernel
theorem dX4_move_69 : decode cX4_move 69 = .ok (.invokestatic 98, 3) := by decide +kernel
theorem dX4_move_72 : decode cX4_move 72 = .ok (.if_icmp .ne 7, 3) := by decide +kernel
theorem dX4_move_75 : decode cX4_move 75 = .ok (.iconst 1, 1) := by decide +kernel
theorem dX4_move_76 : decode cX4_move 76 = .ok (.goto 4, 3) := by decide +kernel
theorem dX4_move_79 : decode cX4_move 79 = .ok (.iconst 0, 1) := by decide +kernel
theorem dX4_move_80 : decode cX4_move 80 = .ok (.ireturn, 1) := by decide +kernel
set_option maxRecDepth 20000 in
theorem ggX4_stretch_X4_draw : GoodIn wsX4_stretch wsX4_draw := goodIn_r _ [13, 14, 15, 16, 17, 18, 19, 20, 21, 22, 85, 86, 87, 88, 89] (by decide +kernel) (by decide +kernel)
set_option maxRecDepth 20000 in
theorem gX4_stretch_X4_draw : GoodIn wsX4_stretch (wsV RX4 62 RX4 yX4_draw wsX4_draw) := goodIn_app (goodIn_of _ (by decide +kernel)) ggX4_stretch_X4_draw
set_option maxRecDepth 20000 in
theorem ggX4_stretch_X4_with : GoodIn wsX4_stretch wsX4_with := goodIn_r _ [25, 1, 26, 27, 28, 29] (by decide +kernel) (by decide +kernel)
set_option maxRecDepth 20000 in
theorem gX4_stretch_X4_with : GoodIn wsX4_stretch (va_wsS RX4 51 yX4_with wsX4_with) := goodIn_app (goodIn_of _ (by decide +kernel)) ggX4_stretch_X4_with
set_option maxRecDepth 20000 in
theorem ggX4_stretch_X3_stretch : GoodIn wsX4_stretch wsX3_stretch := goodIn_ca (goodIn_ca (goodIn_r _ [34, 35, 36, 37, 38, 39, 40, 33, 41, 42, 43, 44, 45, 46, 47, 48, 49, 50, 51, 52, 53, 54, 55, 56, 57, 58, 59, 60, 61, 62, 63, 64, 65, 66, 67, 68, 6, 69, 70, 71, 72, 73, 74, 75, 76, 77, 78, 79, 80, 81, 90, 91, 92, 93, 94, 95, 96] (by decide +kernel) (by decide +kernel)) (goodIn_sub (fun _ h => List.mem_cons_of_mem _ (List.mem_append_left _ (List.mem_append_right _ h))) (by decide +kernel))) (goodIn_sub (fun _ h => List.mem_cons_of_mem _ (List.mem_append_right _ h)) (by decide +kernel))
set_option maxRecDepth 20000 in
theorem gX4_stretch_X3_stretch : GoodIn wsX4_stretch (wsV RX4 116 RX3 yX3_stretch wsX3_stretch) := goodIn_app (goodIn_of _ (by decide +kernel)) ggX4_stretch_X3_stretch
set_option maxRecDepth 20000 in
theorem ggX4_stretch_X4_count : GoodIn wsX4_stretch wsX4_count := goodIn_r _ [84] (by decide +kernel) (by decide +kernel)
set_option maxRecDepth 20000 in
theorem gX4_stretch_X4_count : GoodIn wsX4_stretch (va_wsS RX4 98 yX4_count wsX4_count) := goodIn_app (goodIn_of _ (by decide +kernel)) ggX4_stretch_X4_count
theorem dX4_stretch_0 : decode cX4_stretch 0 = .ok (.aload_n 0, 1) := by decide +kernel
theorem dX4_stretch_1 : decode cX4_stretch 1 = .ok (.bipush 8, 2) := by decide +kernel
theorem dX4_stretch_3 : decode cX4_stretch 3 = .ok (.invokevirtual 62, 3) := by decide +kernel
theorem dX4_stretch_6 : decode cX4_stretch 6 = .ok (.istore_n 1, 1) := by decide +kernel
theorem dX4_stretch_7 : decode cX4_stretch 7 = .ok (.iconst 2, 1) := by decide +kernel
theorem dX4_stretch_8 : decode cX4_stretch 8 = .ok (.aload_n 0, 1) := by decide +kernel
theorem dX4_stretch_9 : decode cX4_stretch 9 = .ok (.aload_n 0, 1) := by decide +kernel
theorem dX4_stretch_10 : decode cX4_stretch 10 = .ok (.iconst 3, 1) := by decide +kernel
theorem dX4_stretch_11 : decode cX4_stretch 11 = .ok (.invokevirtual 62, 3) := by decide +kernel
theorem dX4_stretch_14 : decode cX4_stretch 14 = .ok (.ifCond .ne 8, 3) := by decide +kernel
theorem dX4_stretch_17 : decode cX4_stretch 17 = .ok (.bipush 9, 2) := by decide +kernel
theorem dX4_stretch_19 : decode cX4_stretch 19 = .ok (.goto 4, 3) := by decide +kernel
theorem dX4_stretch_22 : decode cX4_stretch 22 = .ok (.iconst 2, 1) := by decide +kernel
theorem dX4_stretch_23 : decode cX4_stretch 23 = .ok (.invokevirtual 62, 3) := by decide +kernel
theorem dX4_stretch_26 : decode cX4_stretch 26 = .ok (.iadd, 1) := by decide +kernel
theorem dX4_stretch_27 : decode cX4_stretch 27 = .ok (.istore_n 2, 1) := by decide +kernel
theorem dX4_stretch_28 : decode cX4_stretch 28 = .ok (.iconst 0, 1) := by decide +kernel
theorem dX4_stretch_29 : decode cX4_stretch 29 = .ok (.anewarray 44, 3) := by decide +kernel
theorem dX4_stretch_32 : decode cX4_stretch 32 = .ok (.astore_n 3, 1) := by decide +kernel
theorem dX4_stretch_33 : decode cX4_stretch 33 = .ok (.aload_n 0, 1) := by decide +kernel
theorem dX4_stretch_34 : decode cX4_stretch 34 = .ok (.getfield 18, 3) := by decide +kernel
theorem dX4_stretch_37 : decode cX4_stretch 37 = .ok (.iload_n 1, 1) := by decide +kernel
theorem dX4_stretch_38 : decode cX4_stretch 38 = .ok (.aaload, 1) := by decide +kernel
theorem dX4_stretch_39 : decode cX4_stretch 39 = .ok (.astore 4, 2) := by decide +kernel
theorem dX4_stretch_41 : decode cX4_stretch 41 = .ok (.aload 4, 2) := by decide +kernel
theorem dX4_stretch_43 : decode cX4_stretch 43 = .ok (.arraylength, 1) := by decide +kernel
theorem dX4_stretch_44 : decode cX4_stretch 44 = .ok (.istore 5, 2) := by decide +kernel
theorem dX4_stretch_46 : decode cX4_stretch 46 = .ok (.iconst 0, 1) := by decide +kernel
theorem dX4_stretch_47 : decode cX4_stretch 47 = .ok (.istore 6, 2) := by decide +kernel
theorem dX4_stretch_49 : decode cX4_stretch 49 = .ok (.iload 6, 2) := by decide +kernel
theorem dX4_stretch_51 : decode cX4_stretch 51 = .ok (.iload 5, 2) := by decide +kernel
theorem dX4_stretch_53 : decode cX4_stretch 53 = .ok (.if_icmp .ge 112, 3) := by decide +kernel
theorem dX4_stretch_56 : decode cX4_stretch 56 = .ok (.aload 4, 2) := by decide +kernel
theorem dX4_stretch_58 : decode cX4_stretch 58 = .ok (.iload 6, 2) := by decide +kernel
theorem dX4_stretch_60 : decode cX4_stretch 60 = .ok (.aaload, 1) := by decide +kernel
theorem dX4_stretch_61 : decode cX4_stretch 61 = .ok (.astore 7, 2) := by decide +kernel
theorem dX4_stretch_63 : decode cX4_stretch 63 = .ok (.aload 7, 2) := by decide +kernel
theorem dX4_stretch_65 : decode cX4_stretch 65 = .ok (.iconst 0, 1) := by decide +kernel
theorem dX4_stretch_66 : decode cX4_stretch 66 = .ok (.iaload, 1) := by decide +kernel
theorem dX4_stretch_67 : decode cX4_stretch 67 = .ok (.iconst 2, 1) := by decide +kernel
theorem dX4_stretch_68 : decode cX4_stretch 68 = .ok (.irem, 1) := by decide +kernel
theorem dX4_stretch_69 : decode cX4_stretch 69 = .ok (.ifCond .ne 12, 3) := by decide +kernel
theorem dX4_stretch_72 : decode cX4_stretch 72 = .ok (.aload 7, 2) := by decide +kernel
theorem dX4_stretch_74 : decode cX4_stretch 74 = .ok (.iconst 0, 1) := by decide +kernel
theorem dX4_stretch_75 : decode cX4_stretch 75 = .ok (.iaload, 1) := by decide +kernel
theorem dX4_stretch_76 : decode cX4_stretch 76 = .ok (.iload_n 2, 1) := by decide +kernel
theorem dX4_stretch_77 : decode cX4_stretch 77 = .ok (.imul, 1) := by decide +kernel
theorem dX4_stretch_78 : decode cX4_stretch 78 = .ok (.goto 13, 3) := by decide +kernel
theorem dX4_stretch_81 : decode cX4_stretch 81 = .ok (.aload 7, 2) := by decide +kernel
theorem dX4_stretch_83 : decode cX4_stretch 83 = .ok (.iconst 0, 1) := by decide +kernel
theorem dX4_stretch_84 : decode cX4_stretch 84 = .ok (.iaload, 1) := by decide +kernel
theorem dX4_stretch_85 : decode cX4_stretch 85 = .ok (.iconst 1, 1) := by decide +kernel
theorem dX4_stretch_86 : decode cX4_stretch 86 = .ok (.isub, 1) := by decide +kernel
theorem dX4_stretch_87 : decode cX4_stretch 87 = .ok (.iload_n 2, 1) := by decide +kernel
theorem dX4_stretch_88 : decode cX4_stretch 88 = .ok (.imul, 1) := by decide +kernel
theorem dX4_stretch_89 : decode cX4_stretch 89 = .ok (.iconst 1, 1) := by decide +kernel
theorem dX4_stretch_90 : decode cX4_stretch 90 = .ok (.iadd, 1) := by decide +kernel
theorem dX4_stretch_91 : decode cX4_stretch 91 = .ok (.istore 8, 2) := by decide +kernel
theorem dX4_stretch_93 : decode cX4_stretch 93 = .ok (.aload 7, 2) := by decide +kernel
theorem dX4_stretch_95 : decode cX4_stretch 95 = .ok (.iconst 1, 1) := by decide +kernel
theorem dX4_stretch_96 : decode cX4_stretch 96 = .ok (.iaload, 1) := by decide +kernel
theorem dX4_stretch_97 : decode cX4_stretch 97 = .ok (.iconst 2, 1) := by decide +kernel
theorem dX4_stretch_98 : decode cX4_stretch 98 = .ok (.irem, 1) := by decide +kernel
theorem dX4_stretch_99 : decode cX4_stretch 99 = .ok (.ifCond .ne 12, 3) := by decide +kernel
theorem dX4_stretch_102 : decode cX4_stretch 102 = .ok (.aload 7, 2) := by decide +kernel
theorem dX4_stretch_104 : decode cX4_stretch 104 = .ok (.iconst 1, 1) := by decide +kernel
theorem dX4_stretch_105 : decode cX4_stretch 105 = .ok (.iaload, 1) := by decide +kernel
theorem dX4_stretch_106 : decode cX4_stretch 106 = .ok (.iload_n 2, 1) := by decide +kernel
theorem dX4_stretch_107 : decode cX4_stretch 107 = .ok (.imul, 1) := by decide +kernel
theorem dX4_stretch_108 : decode cX4_stretch 108 = .ok (.goto 13, 3) := by decide +kernel
theorem dX4_stretch_111 : decode cX4_stretch 111 = .ok (.aload 7, 2) := by decide +kernel
theorem dX4_stretch_113 : decode cX4_stretch 113 = .ok (.iconst 1, 1) := by decide +kernel
theorem dX4_stretch_114 : decode cX4_stretch 114 = .ok (.iaload, 1) := by decide +kernel
theorem dX4_stretch_115 : decode cX4_stretch 115 = .ok (.iconst 1, 1) := by decide +kernel
theorem dX4_stretch_116 : decode cX4_stretch 116 = .ok (.iadd, 1) := by decide +kernel
theorem dX4_stretch_117 : decode cX4_stretch 117 = .ok (.iload_n 2, 1) := by decide +kernel
theorem dX4_stretch_118 : decode cX4_stretch 118 = .ok (.imul, 1) := by decide +kernel
theorem dX4_stretch_119 : decode cX4_stretch 119 = .ok (.iconst 1, 1) := by decide +kernel
theorem dX4_stretch_120 : decode cX4_stretch 120 = .ok (.isub, 1) := by decide +kernel
theorem dX4_stretch_121 : decode cX4_stretch 121 = .ok (.istore 9, 2) := by decide +kernel
theorem dX4_stretch_123 : decode cX4_stretch 123 = .ok (.iconst 2, 1) := by decide +kernel
theorem dX4_stretch_124 : decode cX4_stretch 124 = .ok (.newarray .int, 2) := by decide +kernel
theorem dX4_stretch_126 : decode cX4_stretch 126 = .ok (.dup, 1) := by decide +kernel
theorem dX4_stretch_127 : decode cX4_stretch 127 = .ok (.iconst 0, 1) := by decide +kernel
theorem dX4_stretch_128 : decode cX4_stretch 128 = .ok (.iload 8, 2) := by decide +kernel
theorem dX4_stretch_130 : decode cX4_stretch 130 = .ok (.iastore, 1) := by decide +kernel
theorem dX4_stretch_131 : decode cX4_stretch 131 = .ok (.dup, 1) := by decide +kernel
theorem dX4_stretch_132 : decode cX4_stretch 132 = .ok (.iconst 1, 1) := by decide +kernel
theorem dX4_stretch_133 : decode cX4_stretch 133 = .ok (.sipush 200, 3) := by decide +kernel
theorem dX4_stretch_136 : decode cX4_stretch 136 = .ok (.iload 9, 2) := by decide +kernel
theorem dX4_stretch_138 : decode cX4_stretch 138 = .ok (.invokestatic 66, 3) := by decide +kernel
theorem dX4_stretch_141 : decode cX4_stretch 141 = .ok (.iastore, 1) := by decide +kernel
theorem dX4_stretch_142 : decode cX4_stretch 142 = .ok (.astore 10, 2) := by decide +kernel
theorem dX4_stretch_144 : decode cX4_stretch 144 = .ok (.iload 8, 2) := by decide +kernel
theorem dX4_stretch_146 : decode cX4_stretch 146 = .ok (.sipush 200, 3) := by decide +kernel
theorem dX4_stretch_149 : decode cX4_stretch 149 = .ok (.if_icmp .gt 10, 3) := by decide +kernel
theorem dX4_stretch_152 : decode cX4_stretch 152 = .ok (.aload_n 3, 1) := by decide +kernel
theorem dX4_stretch_153 : decode cX4_stretch 153 = .ok (.aload 10, 2) := by decide +kernel
theorem dX4_stretch_155 : decode cX4_stretch 155 = .ok (.invokestatic 51, 3) := by decide +kernel
theorem dX4_stretch_158 : decode cX4_stretch 158 = .ok (.astore_n 3, 1) := by decide +kernel
theorem dX4_stretch_159 : decode cX4_stretch 159 = .ok (.iinc 6 1, 3) := by decide +kernel
theorem dX4_stretch_162 : decode cX4_stretch 162 = .ok (.goto (-113), 3) := by decide +kernel
theorem dX4_stretch_165 : decode cX4_stretch 165 = .ok (.aload_n 0, 1) := by decide +kernel
theorem dX4_stretch_166 : decode cX4_stretch 166 = .ok (.getfield 18, 3) := by decide +kernel
theorem dX4_stretch_169 : decode cX4_stretch 169 = .ok (.iload_n 1, 1) := by decide +kernel
theorem dX4_stretch_170 : decode cX4_stretch 170 = .ok (.aload_n 3, 1) := by decide +kernel
theorem dX4_stretch_171 : decode cX4_stretch 171 = .ok (.aastore, 1) := by decide +kernel
theorem dX4_stretch_172 : decode cX4_stretch 172 = .ok (.aload_n 0, 1) := by decide +kernel
theorem dX4_stretch_173 : decode cX4_stretch 173 = .ok (.getfield 10, 3) := by decide +kernel
theorem dX4_stretch_176 : decode cX4_stretch 176 = .ok (.iload_n 1, 1) := by decide +kernel
theorem dX4_stretch_177 : decode cX4_stretch 177 = .ok (.iload_n 2, 1) := by decide +kernel
theorem dX4_stretch_178 : decode cX4_stretch 178 = .ok (.invokevirtual 116, 3) := by decide +kernel
theorem dX4_stretch_181 : decode cX4_stretch 181 = .ok (.aload_n 3, 1) := by decide +kernel
theorem dX4_stretch_182 : decode cX4_stretch 182 = .ok (.invokestatic 98, 3) := by decide +kernel
theorem dX4_stretch_185 : decode cX4_stretch 185 = .ok (.if_icmp .ne 7, 3) := by decide +kernel
theorem dX4_stretch_188 : decode cX4_stretch 188 = .ok (.iconst 1, 1) := by decide +kernel
theorem dX4_stretch_189 : decode cX4_stretch 189 = .ok (.goto 4, 3) := by decide +kernel
theorem dX4_stretch_192 : decode cX4_stretch 192 = .ok (.iconst 0, 1) := by decide +kernel
theorem dX4_stretch_193 : decode cX4_stretch 193 = .ok (.ireturn, 1) := by decide +kernel
theorem dX4_steps_0 : decode cX4_steps 0 = .ok (.iconst 1, 1) := by decide +kernel
theorem dX4_steps_1 : decode cX4_steps 1 = .ok (.istore_n 1, 1) := by decide +kernel
theorem dX4_steps_2 : decode cX4_steps 2 = .ok (.sipush 200, 3) := by decide +kernel
theorem dX4_steps_5 : decode cX4_steps 5 = .ok (.istore_n 2, 1) := by decide +kernel
theorem dX4_steps_6 : decode cX4_steps 6 = .ok (.iload_n 2, 1) := by decide +kernel
theorem dX4_steps_7 : decode cX4_steps 7 = .ok (.ifCond .le 23, 3) := by decide +kernel
theorem dX4_steps_10 : decode cX4_steps 10 = .ok (.aload_n 0, 1) := by decide +kernel
theorem dX4_steps_11 : decode cX4_steps 11 = .ok (.iload_n 2, 1) := by decide +kernel
theorem dX4_steps_12 : decode cX4_steps 12 = .ok (.iaload, 1) := by decide +kernel
theorem dX4_steps_13 : decode cX4_steps 13 = .ok (.aload_n 0, 1) := by decide +kernel
theorem dX4_steps_14 : decode cX4_steps 14 = .ok (.iload_n 2, 1) := by decide +kernel
theorem dX4_steps_15 : decode cX4_steps 15 = .ok (.iconst 1, 1) := by decide +kernel
theorem dX4_steps_16 : decode cX4_steps 16 = .ok (.isub, 1) := by decide +kernel
theorem dX4_steps_17 : decode cX4_steps 17 = .ok (.iaload, 1) := by decide +kernel
theorem dX4_steps_18 : decode cX4_steps 18 = .ok (.if_icmp .eq 6, 3) := by decide +kernel
theorem dX4_steps_21 : decode cX4_steps 21 = .ok (.iinc 1 1, 3) := by decide +kernel
theorem dX4_steps_24 : decode cX4_steps 24 = .ok (.iinc 2 (-1), 3) := by decide +kernel
theorem dX4_steps_27 : decode cX4_steps 27 = .ok (.goto (-21), 3) := by decide +kernel
theorem dX4_steps_30 : decode cX4_steps 30 = .ok (.iload_n 1, 1) := by decide +kernel
theorem dX4_steps_31 : decode cX4_steps 31 = .ok (.ireturn, 1) := by decide +kernel
theorem dX4_kept_0 : decode cX4_kept 0 = .ok (.iload_n 0, 1) := by decide +kernel
theorem dX4_kept_1 : decode cX4_kept 1 = .ok (.sipush 10000, 3) := by decide +kernel
theorem dX4_kept_4 : decode cX4_kept 4 = .ok (.if_icmp .le 9, 3) := by decide +kernel
theorem dX4_kept_7 : decode cX4_kept 7 = .ok (.sipush 10000, 3) := by decide +kernel
theorem dX4_kept_10 : decode cX4_kept 10 = .ok (.goto 17, 3) := by decide +kernel
theorem dX4_kept_13 : decode cX4_kept 13 = .ok (.iload_n 0, 1) := by decide +kernel
theorem dX4_kept_14 : decode cX4_kept 14 = .ok (.sipush (-10000), 3) := by decide +kernel
theorem dX4_kept_17 : decode cX4_kept 17 = .ok (.if_icmp .ge 9, 3) := by decide +kernel
theorem dX4_kept_20 : decode cX4_kept 20 = .ok (.sipush (-10000), 3) := by decide +kernel
theorem dX4_kept_23 : decode cX4_kept 23 = .ok (.goto 4, 3) := by decide +kernel
theorem dX4_kept_26 : decode cX4_kept 26 = .ok (.iload_n 0, 1) := by decide +kernel
theorem dX4_kept_27 : decode cX4_kept 27 = .ok (.ireturn, 1) := by decide +kernel
set_option maxRecDepth 20000 in
theorem ggX4_raise_X4_draw : GoodIn wsX4_raise wsX4_draw := goodIn_r _ [7, 8, 9, 10, 11, 12, 13, 14, 15, 16, 78, 79, 80, 81, 82] (by decide +kernel) (by decide +kernel)
set_option maxRecDepth 20000 in
theorem gX4_raise_X4_draw : GoodIn wsX4_raise (wsV RX4 62 RX4 yX4_draw wsX4_draw) := goodIn_app (goodIn_of _ (by decide +kernel)) ggX4_raise_X4_draw
set_option maxRecDepth 20000 in
theorem ggX4_raise_X4_any : GoodIn wsX4_raise wsX4_any := goodIn_r _ [20, 21, 22, 23, 24, 25, 26, 27, 28, 3, 4, 5, 6, 7, 8, 9, 10, 11, 12, 13, 14, 15, 16, 78, 79, 80, 81, 82] (by decide +kernel) (by decide +kernel)
set_option maxRecDepth 20000 in
theorem gX4_raise_X4_any : GoodIn wsX4_raise (wsV RX4 74 RX4 yX4_any wsX4_any) := goodIn_app (goodIn_of _ (by decide +kernel)) ggX4_raise_X4_any
set_option maxRecDepth 20000 in
theorem ggX4_raise_X4_kept : GoodIn wsX4_raise wsX4_kept := goodIn_r _ [31] (by decide +kernel) (by decide +kernel)
set_option maxRecDepth 20000 in
theorem gX4_raise_X4_kept : GoodIn wsX4_raise (va_wsS RX4 119 yX4_kept wsX4_kept) := goodIn_app (goodIn_of _ (by decide +kernel)) ggX4_raise_X4_kept
set_option maxRecDepth 20000 in
theorem ggX4_raise_X3_raise : GoodIn wsX4_raise wsX3_raise := goodIn_ca (goodIn_ca (goodIn_r _ [36, 37, 38, 39, 40, 41, 35, 42, 43, 44, 45, 46, 47, 48, 49, 50, 51, 52, 53, 54, 55, 56, 57, 58, 59, 60, 61, 62, 63, 64, 65, 66, 67, 68, 22, 23, 24, 69, 26, 27, 70, 71, 72, 73, 74, 83, 84, 85, 86, 87, 88, 89] (by decide +kernel) (by decide +kernel)) (goodIn_sub (fun _ h => List.mem_cons_of_mem _ (List.mem_append_left _ (List.mem_append_right _ h))) (by decide +kernel))) (goodIn_sub (fun _ h => List.mem_cons_of_mem _ (List.mem_append_right _ h)) (by decide +kernel))
set_option maxRecDepth 20000 in
theorem gX4_raise_X3_raise : GoodIn wsX4_raise (wsV RX4 122 RX3 yX3_raise wsX3_raise) := goodIn_app (goodIn_of _ (by decide +kernel)) ggX4_raise_X3_raise
set_option maxRecDepth 20000 in
theorem ggX4_raise_X4_steps : GoodIn wsX4_raise wsX4_steps := goodIn_r _ [77] (by decide +kernel) (by decide +kernel)
set_option maxRecDepth 20000 in
theorem gX4_raise_X4_steps : GoodIn wsX4_raise (va_wsS RX4 126 yX4_steps wsX4_steps) := goodIn_app (goodIn_of _ (by decide +kernel)) ggX4_raise_X4_steps
theorem dX4_raise_0 : decode cX4_raise 0 = .ok (.aload_n 0, 1) := by decide +kernel
theorem dX4_raise_1 : decode cX4_raise 1 = .ok (.iconst 5, 1) := by decide +kernel
theorem dX4_raise_2 : decode cX4_raise 2 = .ok (.invokevirtual 62, 3) := by decide +kernel
theorem dX4_raise_5 : decode cX4_raise 5 = .ok (.istore_n 1, 1) := by decide +kernel
theorem dX4_raise_6 : decode cX4_raise 6 = .ok (.aload_n 0, 1) := by decide +kernel
theorem dX4_raise_7 : decode cX4_raise 7 = .ok (.invokevirtual 74, 3) := by decide +kernel
theorem dX4_raise_10 : decode cX4_raise 10 = .ok (.astore_n 2, 1) := by decide +kernel
theorem dX4_raise_11 : decode cX4_raise 11 = .ok (.aload_n 0, 1) := by decide +kernel
theorem dX4_raise_12 : decode cX4_raise 12 = .ok (.iconst 4, 1) := by decide +kernel
theorem dX4_raise_13 : decode cX4_raise 13 = .ok (.invokevirtual 62, 3) := by decide +kernel
theorem dX4_raise_16 : decode cX4_raise 16 = .ok (.ifCond .ne 17, 3) := by decide +kernel
theorem dX4_raise_19 : decode cX4_raise 19 = .ok (.aload_n 0, 1) := by decide +kernel
theorem dX4_raise_20 : decode cX4_raise 20 = .ok (.sipush 2001, 3) := by decide +kernel
theorem dX4_raise_23 : decode cX4_raise 23 = .ok (.invokevirtual 62, 3) := by decide +kernel
theorem dX4_raise_26 : decode cX4_raise 26 = .ok (.sipush 1000, 3) := by decide +kernel
theorem dX4_raise_29 : decode cX4_raise 29 = .ok (.isub, 1) := by decide +kernel
theorem dX4_raise_30 : decode cX4_raise 30 = .ok (.goto 12, 3) := by decide +kernel
theorem dX4_raise_33 : decode cX4_raise 33 = .ok (.aload_n 0, 1) := by decide +kernel
theorem dX4_raise_34 : decode cX4_raise 34 = .ok (.bipush 21, 2) := by decide +kernel
theorem dX4_raise_36 : decode cX4_raise 36 = .ok (.invokevirtual 62, 3) := by decide +kernel
theorem dX4_raise_39 : decode cX4_raise 39 = .ok (.bipush 10, 2) := by decide +kernel
theorem dX4_raise_41 : decode cX4_raise 41 = .ok (.isub, 1) := by decide +kernel
theorem dX4_raise_42 : decode cX4_raise 42 = .ok (.istore_n 3, 1) := by decide +kernel
theorem dX4_raise_43 : decode cX4_raise 43 = .ok (.aload_n 2, 1) := by decide +kernel
theorem dX4_raise_44 : decode cX4_raise 44 = .ok (.iconst 0, 1) := by decide +kernel
theorem dX4_raise_45 : decode cX4_raise 45 = .ok (.iaload, 1) := by decide +kernel
theorem dX4_raise_46 : decode cX4_raise 46 = .ok (.istore 4, 2) := by decide +kernel
theorem dX4_raise_48 : decode cX4_raise 48 = .ok (.iload 4, 2) := by decide +kernel
theorem dX4_raise_50 : decode cX4_raise 50 = .ok (.aload_n 2, 1) := by decide +kernel
theorem dX4_raise_51 : decode cX4_raise 51 = .ok (.iconst 1, 1) := by decide +kernel
theorem dX4_raise_52 : decode cX4_raise 52 = .ok (.iaload, 1) := by decide +kernel
theorem dX4_raise_53 : decode cX4_raise 53 = .ok (.if_icmp .gt 32, 3) := by decide +kernel
theorem dX4_raise_56 : decode cX4_raise 56 = .ok (.aload_n 0, 1) := by decide +kernel
theorem dX4_raise_57 : decode cX4_raise 57 = .ok (.getfield 23, 3) := by decide +kernel
theorem dX4_raise_60 : decode cX4_raise 60 = .ok (.iload_n 1, 1) := by decide +kernel
theorem dX4_raise_61 : decode cX4_raise 61 = .ok (.aaload, 1) := by decide +kernel
theorem dX4_raise_62 : decode cX4_raise 62 = .ok (.iload 4, 2) := by decide +kernel
theorem dX4_raise_64 : decode cX4_raise 64 = .ok (.aload_n 0, 1) := by decide +kernel
theorem dX4_raise_65 : decode cX4_raise 65 = .ok (.getfield 23, 3) := by decide +kernel
theorem dX4_raise_68 : decode cX4_raise 68 = .ok (.iload_n 1, 1) := by decide +kernel
theorem dX4_raise_69 : decode cX4_raise 69 = .ok (.aaload, 1) := by decide +kernel
theorem dX4_raise_70 : decode cX4_raise 70 = .ok (.iload 4, 2) := by decide +kernel
theorem dX4_raise_72 : decode cX4_raise 72 = .ok (.iaload, 1) := by decide +kernel
theorem dX4_raise_73 : decode cX4_raise 73 = .ok (.iload_n 3, 1) := by decide +kernel
theorem dX4_raise_74 : decode cX4_raise 74 = .ok (.iadd, 1) := by decide +kernel
theorem dX4_raise_75 : decode cX4_raise 75 = .ok (.invokestatic 119, 3) := by decide +kernel
theorem dX4_raise_78 : decode cX4_raise 78 = .ok (.iastore, 1) := by decide +kernel
theorem dX4_raise_79 : decode cX4_raise 79 = .ok (.iinc 4 1, 3) := by decide +kernel
theorem dX4_raise_82 : decode cX4_raise 82 = .ok (.goto (-34), 3) := by decide +kernel
theorem dX4_raise_85 : decode cX4_raise 85 = .ok (.aload_n 0, 1) := by decide +kernel
theorem dX4_raise_86 : decode cX4_raise 86 = .ok (.getfield 10, 3) := by decide +kernel
theorem dX4_raise_89 : decode cX4_raise 89 = .ok (.iload_n 1, 1) := by decide +kernel
theorem dX4_raise_90 : decode cX4_raise 90 = .ok (.aload_n 2, 1) := by decide +kernel
theorem dX4_raise_91 : decode cX4_raise 91 = .ok (.iconst 2, 1) := by decide +kernel
theorem dX4_raise_92 : decode cX4_raise 92 = .ok (.iaload, 1) := by decide +kernel
theorem dX4_raise_93 : decode cX4_raise 93 = .ok (.aload_n 2, 1) := by decide +kernel
theorem dX4_raise_94 : decode cX4_raise 94 = .ok (.iconst 3, 1) := by decide +kernel
theorem dX4_raise_95 : decode cX4_raise 95 = .ok (.iaload, 1) := by decide +kernel
theorem dX4_raise_96 : decode cX4_raise 96 = .ok (.aload_n 2, 1) := by decide +kernel
theorem dX4_raise_97 : decode cX4_raise 97 = .ok (.iconst 4, 1) := by decide +kernel
theorem dX4_raise_98 : decode cX4_raise 98 = .ok (.iaload, 1) := by decide +kernel
theorem dX4_raise_99 : decode cX4_raise 99 = .ok (.iload_n 3, 1) := by decide +kernel
theorem dX4_raise_100 : decode cX4_raise 100 = .ok (.invokevirtual 122, 3) := by decide +kernel
theorem dX4_raise_103 : decode cX4_raise 103 = .ok (.aload_n 0, 1) := by decide +kernel
theorem dX4_raise_104 : decode cX4_raise 104 = .ok (.getfield 23, 3) := by decide +kernel
theorem dX4_raise_107 : decode cX4_raise 107 = .ok (.iload_n 1, 1) := by decide +kernel
theorem dX4_raise_108 : decode cX4_raise 108 = .ok (.aaload, 1) := by decide +kernel
theorem dX4_raise_109 : decode cX4_raise 109 = .ok (.invokestatic 126, 3) := by decide +kernel
theorem dX4_raise_112 : decode cX4_raise 112 = .ok (.if_icmp .ne 7, 3) := by decide +kernel
theorem dX4_raise_115 : decode cX4_raise 115 = .ok (.iconst 1, 1) := by decide +kernel
theorem dX4_raise_116 : decode cX4_raise 116 = .ok (.goto 4, 3) := by decide +kernel
theorem dX4_raise_119 : decode cX4_raise 119 = .ok (.iconst 0, 1) := by decide +kernel
theorem dX4_raise_120 : decode cX4_raise 120 = .ok (.ireturn, 1) := by decide +kernel
set_option maxRecDepth 20000 in
theorem ggX4_set_X4_draw : GoodIn wsX4_set wsX4_draw := goodIn_r _ [8, 9, 10, 11, 12, 13, 14, 15, 16, 17, 74, 75, 76, 77, 78] (by decide +kernel) (by decide +kernel)
set_option maxRecDepth 20000 in
theorem gX4_set_X4_draw : GoodIn wsX4_set (wsV RX4 62 RX4 yX4_draw wsX4_draw) := goodIn_app (goodIn_of _ (by decide +kernel)) ggX4_set_X4_draw
set_option maxRecDepth 20000 in
theorem ggX4_set_X4_isIn : GoodIn wsX4_set wsX4_isIn := goodIn_r _ [20] (by decide +kernel) (by decide +kernel)
set_option maxRecDepth 20000 in
theorem gX4_set_X4_isIn : GoodIn wsX4_set (va_wsS RX4 90 yX4_isIn wsX4_isIn) := goodIn_app (goodIn_of _ (by decide +kernel)) ggX4_set_X4_isIn
set_option maxRecDepth 20000 in
theorem ggX4_set_X3_set : GoodIn wsX4_set wsX3_set := goodIn_ca (goodIn_ca (goodIn_r _ [25, 26, 27, 28, 29, 30, 24, 31, 32, 33, 34, 35, 36, 37, 38, 39, 40, 41, 42, 43, 44, 45, 46, 47, 48, 49, 50, 51, 52, 53, 54, 55, 56, 57, 58, 59, 60, 61, 62, 63, 64, 65, 66, 67, 68, 69, 70, 79, 80, 81, 82, 83, 84, 85, 86] (by decide +kernel) (by decide +kernel)) (goodIn_sub (fun _ h => List.mem_cons_of_mem _ (List.mem_append_left _ (List.mem_append_right _ h))) (by decide +kernel))) (goodIn_sub (fun _ h => List.mem_cons_of_mem _ (List.mem_append_right _ h)) (by decide +kernel))
set_option maxRecDepth 20000 in
theorem gX4_set_X3_set : GoodIn wsX4_set (wsV RX4 129 RX3 yX3_set wsX3_set) := goodIn_app (goodIn_of _ (by decide +kernel)) ggX4_set_X3_set
set_option maxRecDepth 20000 in
theorem ggX4_set_X4_steps : GoodIn wsX4_set wsX4_steps := goodIn_r _ [73] (by decide +kernel) (by decide +kernel)
set_option maxRecDepth 20000 in
theorem gX4_set_X4_steps : GoodIn wsX4_set (va_wsS RX4 126 yX4_steps wsX4_steps) := goodIn_app (goodIn_of _ (by decide +kernel)) ggX4_set_X4_steps
theorem dX4_set_0 : decode cX4_set 0 = .ok (.aload_n 0, 1) := by decide +kernel
theorem dX4_set_1 : decode cX4_set 1 = .ok (.iconst 5, 1) := by decide +kernel
theorem dX4_set_2 : decode cX4_set 2 = .ok (.invokevirtual 62, 3) := by decide +kernel
theorem dX4_set_5 : decode cX4_set 5 = .ok (.istore_n 1, 1) := by decide +kernel
theorem dX4_set_6 : decode cX4_set 6 = .ok (.aload_n 0, 1) := by decide +kernel
theorem dX4_set_7 : decode cX4_set 7 = .ok (.bipush 8, 2) := by decide +kernel
theorem dX4_set_9 : decode cX4_set 9 = .ok (.invokevirtual 62, 3) := by decide +kernel
theorem dX4_set_12 : decode cX4_set 12 = .ok (.istore_n 2, 1) := by decide +kernel
theorem dX4_set_13 : decode cX4_set 13 = .ok (.aload_n 0, 1) := by decide +kernel
theorem dX4_set_14 : decode cX4_set 14 = .ok (.iconst 5, 1) := by decide +kernel
theorem dX4_set_15 : decode cX4_set 15 = .ok (.invokevirtual 62, 3) := by decide +kernel
theorem dX4_set_18 : decode cX4_set 18 = .ok (.ifCond .ne 17, 3) := by decide +kernel
theorem dX4_set_21 : decode cX4_set 21 = .ok (.aload_n 0, 1) := by decide +kernel
theorem dX4_set_22 : decode cX4_set 22 = .ok (.sipush 20001, 3) := by decide +kernel
theorem dX4_set_25 : decode cX4_set 25 = .ok (.invokevirtual 62, 3) := by decide +kernel
theorem dX4_set_28 : decode cX4_set 28 = .ok (.sipush 10000, 3) := by decide +kernel
theorem dX4_set_31 : decode cX4_set 31 = .ok (.isub, 1) := by decide +kernel
theorem dX4_set_32 : decode cX4_set 32 = .ok (.goto 9, 3) := by decide +kernel
theorem dX4_set_35 : decode cX4_set 35 = .ok (.aload_n 0, 1) := by decide +kernel
theorem dX4_set_36 : decode cX4_set 36 = .ok (.bipush 30, 2) := by decide +kernel
theorem dX4_set_38 : decode cX4_set 38 = .ok (.invokevirtual 62, 3) := by decide +kernel
theorem dX4_set_41 : decode cX4_set 41 = .ok (.istore_n 3, 1) := by decide +kernel
theorem dX4_set_42 : decode cX4_set 42 = .ok (.iconst 0, 1) := by decide +kernel
theorem dX4_set_43 : decode cX4_set 43 = .ok (.istore 4, 2) := by decide +kernel
theorem dX4_set_45 : decode cX4_set 45 = .ok (.iload 4, 2) := by decide +kernel
theorem dX4_set_47 : decode cX4_set 47 = .ok (.sipush 200, 3) := by decide +kernel
theorem dX4_set_50 : decode cX4_set 50 = .ok (.if_icmp .gt 33, 3) := by decide +kernel
theorem dX4_set_53 : decode cX4_set 53 = .ok (.aload_n 0, 1) := by decide +kernel
theorem dX4_set_54 : decode cX4_set 54 = .ok (.getfield 18, 3) := by decide +kernel
theorem dX4_set_57 : decode cX4_set 57 = .ok (.iload_n 2, 1) := by decide +kernel
theorem dX4_set_58 : decode cX4_set 58 = .ok (.aaload, 1) := by decide +kernel
theorem dX4_set_59 : decode cX4_set 59 = .ok (.iload 4, 2) := by decide +kernel
theorem dX4_set_61 : decode cX4_set 61 = .ok (.invokestatic 90, 3) := by decide +kernel
theorem dX4_set_64 : decode cX4_set 64 = .ok (.ifCond .eq 13, 3) := by decide +kernel
theorem dX4_set_67 : decode cX4_set 67 = .ok (.aload_n 0, 1) := by decide +kernel
theorem dX4_set_68 : decode cX4_set 68 = .ok (.getfield 23, 3) := by decide +kernel
theorem dX4_set_71 : decode cX4_set 71 = .ok (.iload_n 1, 1) := by decide +kernel
theorem dX4_set_72 : decode cX4_set 72 = .ok (.aaload, 1) := by decide +kernel
theorem dX4_set_73 : decode cX4_set 73 = .ok (.iload 4, 2) := by decide +kernel
theorem dX4_set_75 : decode cX4_set 75 = .ok (.iload_n 3, 1) := by decide +kernel
theorem dX4_set_76 : decode cX4_set 76 = .ok (.iastore, 1) := by decide +kernel
theorem dX4_set_77 : decode cX4_set 77 = .ok (.iinc 4 1, 3) := by decide +kernel
theorem dX4_set_80 : decode cX4_set 80 = .ok (.goto (-35), 3) := by decide +kernel
theorem dX4_set_83 : decode cX4_set 83 = .ok (.aload_n 0, 1) := by decide +kernel
theorem dX4_set_84 : decode cX4_set 84 = .ok (.getfield 10, 3) := by decide +kernel
theorem dX4_set_87 : decode cX4_set 87 = .ok (.iload_n 1, 1) := by decide +kernel
theorem dX4_set_88 : decode cX4_set 88 = .ok (.iload_n 2, 1) := by decide +kernel
theorem dX4_set_89 : decode cX4_set 89 = .ok (.iload_n 3, 1) := by decide +kernel
theorem dX4_set_90 : decode cX4_set 90 = .ok (.invokevirtual 129, 3) := by decide +kernel
theorem dX4_set_93 : decode cX4_set 93 = .ok (.aload_n 0, 1) := by decide +kernel
theorem dX4_set_94 : decode cX4_set 94 = .ok (.getfield 23, 3) := by decide +kernel
theorem dX4_set_97 : decode cX4_set 97 = .ok (.iload_n 1, 1) := by decide +kernel
theorem dX4_set_98 : decode cX4_set 98 = .ok (.aaload, 1) := by decide +kernel
theorem dX4_set_99 : decode cX4_set 99 = .ok (.invokestatic 126, 3) := by decide +kernel
theorem dX4_set_102 : decode cX4_set 102 = .ok (.if_icmp .ne 7, 3) := by decide +kernel
theorem dX4_set_105 : decode cX4_set 105 = .ok (.iconst 1, 1) := by decide +kernel
theorem dX4_set_106 : decode cX4_set 106 = .ok (.goto 4, 3) := by decide +kernel
theorem dX4_set_109 : decode cX4_set 109 = .ok (.iconst 0, 1) := by decide +kernel
theorem dX4_set_110 : decode cX4_set 110 = .ok (.ireturn, 1) := by decide +kernel
set_option maxRecDepth 20000 in
theorem ggX4_mix_X4_draw : GoodIn wsX4_mix wsX4_draw := goodIn_r _ [8, 9, 10, 11, 12, 13, 14, 15, 16, 17, 68, 69, 70, 71, 72] (by decide +kernel) (by decide +kernel)
set_option maxRecDepth 20000 in
theorem gX4_mix_X4_draw : GoodIn wsX4_mix (wsV RX4 62 RX4 yX4_draw wsX4_draw) := goodIn_app (goodIn_of _ (by decide +kernel)) ggX4_mix_X4_draw
set_option maxRecDepth 20000 in
theorem ggX4_mix_X4_kept : GoodIn wsX4_mix wsX4_kept := goodIn_r _ [20] (by decide +kernel) (by decide +kernel)
set_option maxRecDepth 20000 in
theorem gX4_mix_X4_kept : GoodIn wsX4_mix (va_wsS RX4 119 yX4_kept wsX4_kept) := goodIn_app (goodIn_of _ (by decide +kernel)) ggX4_mix_X4_kept
set_option maxRecDepth 20000 in
theorem ggX4_mix_X3_mix : GoodIn wsX4_mix wsX3_mix := goodIn_ca (goodIn_ca (goodIn_r _ [25, 26, 27, 28, 24, 29, 30, 31, 32, 33, 34, 35, 36, 37, 38, 39, 40, 41, 42, 43, 44, 45, 46, 47, 48, 49, 50, 51, 52, 53, 54, 55, 56, 57, 58, 59, 60, 61, 62, 63, 64, 73, 74, 75, 76, 77, 78, 79] (by decide +kernel) (by decide +kernel)) (goodIn_sub (fun _ h => List.mem_cons_of_mem _ (List.mem_append_left _ (List.mem_append_right _ h))) (by decide +kernel))) (goodIn_sub (fun _ h => List.mem_cons_of_mem _ (List.mem_append_right _ h)) (by decide +kernel))
set_option maxRecDepth 20000 in
theorem gX4_mix_X3_mix : GoodIn wsX4_mix (wsV RX4 133 RX3 yX3_mix wsX3_mix) := goodIn_app (goodIn_of _ (by decide +kernel)) ggX4_mix_X3_mix
set_option maxRecDepth 20000 in
theorem ggX4_mix_X4_steps : GoodIn wsX4_mix wsX4_steps := goodIn_r _ [67] (by decide +kernel) (by decide +kernel)
set_option maxRecDepth 20000 in
theorem gX4_mix_X4_steps : GoodIn wsX4_mix (va_wsS RX4 126 yX4_steps wsX4_steps) := goodIn_app (goodIn_of _ (by decide +kernel)) ggX4_mix_X4_steps
theorem dX4_mix_0 : decode cX4_mix 0 = .ok (.aload_n 0, 1) := by decide +kernel
theorem dX4_mix_1 : decode cX4_mix 1 = .ok (.iconst 5, 1) := by decide +kernel
theorem dX4_mix_2 : decode cX4_mix 2 = .ok (.invokevirtual 62, 3) := by decide +kernel
theorem dX4_mix_5 : decode cX4_mix 5 = .ok (.istore_n 1, 1) := by decide +kernel
theorem dX4_mix_6 : decode cX4_mix 6 = .ok (.aload_n 0, 1) := by decide +kernel
theorem dX4_mix_7 : decode cX4_mix 7 = .ok (.iconst 5, 1) := by decide +kernel
theorem dX4_mix_8 : decode cX4_mix 8 = .ok (.invokevirtual 62, 3) := by decide +kernel
theorem dX4_mix_11 : decode cX4_mix 11 = .ok (.istore_n 2, 1) := by decide +kernel
theorem dX4_mix_12 : decode cX4_mix 12 = .ok (.aload_n 0, 1) := by decide +kernel
theorem dX4_mix_13 : decode cX4_mix 13 = .ok (.iconst 5, 1) := by decide +kernel
theorem dX4_mix_14 : decode cX4_mix 14 = .ok (.invokevirtual 62, 3) := by decide +kernel
theorem dX4_mix_17 : decode cX4_mix 17 = .ok (.istore_n 3, 1) := by decide +kernel
theorem dX4_mix_18 : decode cX4_mix 18 = .ok (.aload_n 0, 1) := by decide +kernel
theorem dX4_mix_19 : decode cX4_mix 19 = .ok (.iconst 5, 1) := by decide +kernel
theorem dX4_mix_20 : decode cX4_mix 20 = .ok (.invokevirtual 62, 3) := by decide +kernel
theorem dX4_mix_23 : decode cX4_mix 23 = .ok (.istore 4, 2) := by decide +kernel
theorem dX4_mix_25 : decode cX4_mix 25 = .ok (.sipush 201, 3) := by decide +kernel
theorem dX4_mix_28 : decode cX4_mix 28 = .ok (.newarray .int, 2) := by decide +kernel
theorem dX4_mix_30 : decode cX4_mix 30 = .ok (.astore 5, 2) := by decide +kernel
theorem dX4_mix_32 : decode cX4_mix 32 = .ok (.iconst 0, 1) := by decide +kernel
theorem dX4_mix_33 : decode cX4_mix 33 = .ok (.istore 6, 2) := by decide +kernel
theorem dX4_mix_35 : decode cX4_mix 35 = .ok (.iload 6, 2) := by decide +kernel
theorem dX4_mix_37 : decode cX4_mix 37 = .ok (.sipush 200, 3) := by decide +kernel
theorem dX4_mix_40 : decode cX4_mix 40 = .ok (.if_icmp .gt 120, 3) := by decide +kernel
theorem dX4_mix_43 : decode cX4_mix 43 = .ok (.aload_n 0, 1) := by decide +kernel
theorem dX4_mix_44 : decode cX4_mix 44 = .ok (.getfield 23, 3) := by decide +kernel
theorem dX4_mix_47 : decode cX4_mix 47 = .ok (.iload_n 2, 1) := by decide +kernel
theorem dX4_mix_48 : decode cX4_mix 48 = .ok (.aaload, 1) := by decide +kernel
theorem dX4_mix_49 : decode cX4_mix 49 = .ok (.iload 6, 2) := by decide +kernel
theorem dX4_mix_51 : decode cX4_mix 51 = .ok (.iaload, 1) := by decide +kernel
theorem dX4_mix_52 : decode cX4_mix 52 = .ok (.istore 7, 2) := by decide +kernel
theorem dX4_mix_54 : decode cX4_mix 54 = .ok (.aload_n 0, 1) := by decide +kernel
theorem dX4_mix_55 : decode cX4_mix 55 = .ok (.getfield 23, 3) := by decide +kernel
theorem dX4_mix_58 : decode cX4_mix 58 = .ok (.iload_n 3, 1) := by decide +kernel
theorem dX4_mix_59 : decode cX4_mix 59 = .ok (.aaload, 1) := by decide +kernel
theorem dX4_mix_60 : decode cX4_mix 60 = .ok (.iload 6, 2) := by decide +kernel
theorem dX4_mix_62 : decode cX4_mix 62 = .ok (.iaload, 1) := by decide +kernel
theorem dX4_mix_63 : decode cX4_mix 63 = .ok (.istore 8, 2) := by decide +kernel
theorem dX4_mix_65 : decode cX4_mix 65 = .ok (.aload 5, 2) := by decide +kernel
theorem dX4_mix_67 : decode cX4_mix 67 = .ok (.iload 6, 2) := by decide +kernel
theorem dX4_mix_69 : decode cX4_mix 69 = .ok (.iload 4, 2) := by decide +kernel
theorem dX4_mix_71 : decode cX4_mix 71 = .ok (.ifCond .ne 11, 3) := by decide +kernel
theorem dX4_mix_74 : decode cX4_mix 74 = .ok (.iload 7, 2) := by decide +kernel
theorem dX4_mix_76 : decode cX4_mix 76 = .ok (.iload 8, 2) := by decide +kernel
theorem dX4_mix_78 : decode cX4_mix 78 = .ok (.iadd, 1) := by decide +kernel
theorem dX4_mix_79 : decode cX4_mix 79 = .ok (.goto 71, 3) := by decide +kernel
theorem dX4_mix_82 : decode cX4_mix 82 = .ok (.iload 4, 2) := by decide +kernel
theorem dX4_mix_84 : decode cX4_mix 84 = .ok (.iconst 1, 1) := by decide +kernel
theorem dX4_mix_85 : decode cX4_mix 85 = .ok (.if_icmp .ne 20, 3) := by decide +kernel
theorem dX4_mix_88 : decode cX4_mix 88 = .ok (.iload 7, 2) := by decide +kernel
theorem dX4_mix_90 : decode cX4_mix 90 = .ok (.iload 8, 2) := by decide +kernel
theorem dX4_mix_92 : decode cX4_mix 92 = .ok (.if_icmp .ge 8, 3) := by decide +kernel
theorem dX4_mix_95 : decode cX4_mix 95 = .ok (.iload 7, 2) := by decide +kernel
theorem dX4_mix_97 : decode cX4_mix 97 = .ok (.goto 53, 3) := by decide +kernel
theorem dX4_mix_100 : decode cX4_mix 100 = .ok (.iload 8, 2) := by decide +kernel
theorem dX4_mix_102 : decode cX4_mix 102 = .ok (.goto 48, 3) := by decide +kernel
theorem dX4_mix_105 : decode cX4_mix 105 = .ok (.iload 4, 2) := by decide +kernel
theorem dX4_mix_107 : decode cX4_mix 107 = .ok (.iconst 2, 1) := by decide +kernel
theorem dX4_mix_108 : decode cX4_mix 108 = .ok (.if_icmp .ne 20, 3) := by decide +kernel
theorem dX4_mix_111 : decode cX4_mix 111 = .ok (.iload 7, 2) := by decide +kernel
theorem dX4_mix_113 : decode cX4_mix 113 = .ok (.iload 8, 2) := by decide +kernel
theorem dX4_mix_115 : decode cX4_mix 115 = .ok (.if_icmp .ge 8, 3) := by decide +kernel
theorem dX4_mix_118 : decode cX4_mix 118 = .ok (.iload 8, 2) := by decide +kernel
theorem dX4_mix_120 : decode cX4_mix 120 = .ok (.goto 30, 3) := by decide +kernel
theorem dX4_mix_123 : decode cX4_mix 123 = .ok (.iload 7, 2) := by decide +kernel
theorem dX4_mix_125 : decode cX4_mix 125 = .ok (.goto 25, 3) := by decide +kernel
theorem dX4_mix_128 : decode cX4_mix 128 = .ok (.iload 4, 2) := by decide +kernel
theorem dX4_mix_130 : decode cX4_mix 130 = .ok (.iconst 3, 1) := by decide +kernel
theorem dX4_mix_131 : decode cX4_mix 131 = .ok (.if_icmp .ne 11, 3) := by decide +kernel
theorem dX4_mix_134 : decode cX4_mix 134 = .ok (.iload 7, 2) := by decide +kernel
theorem dX4_mix_136 : decode cX4_mix 136 = .ok (.iload 8, 2) := by decide +kernel
theorem dX4_mix_138 : decode cX4_mix 138 = .ok (.isub, 1) := by decide +kernel
theorem dX4_mix_139 : decode cX4_mix 139 = .ok (.goto 11, 3) := by decide +kernel
theorem dX4_mix_142 : decode cX4_mix 142 = .ok (.iload 7, 2) := by decide +kernel
theorem dX4_mix_144 : decode cX4_mix 144 = .ok (.iload 8, 2) := by decide +kernel
theorem dX4_mix_146 : decode cX4_mix 146 = .ok (.imul, 1) := by decide +kernel
theorem dX4_mix_147 : decode cX4_mix 147 = .ok (.bipush 100, 2) := by decide +kernel
theorem dX4_mix_149 : decode cX4_mix 149 = .ok (.idiv, 1) := by decide +kernel
theorem dX4_mix_150 : decode cX4_mix 150 = .ok (.invokestatic 119, 3) := by decide +kernel
theorem dX4_mix_153 : decode cX4_mix 153 = .ok (.iastore, 1) := by decide +kernel
theorem dX4_mix_154 : decode cX4_mix 154 = .ok (.iinc 6 1, 3) := by decide +kernel
theorem dX4_mix_157 : decode cX4_mix 157 = .ok (.goto (-122), 3) := by decide +kernel
theorem dX4_mix_160 : decode cX4_mix 160 = .ok (.aload_n 0, 1) := by decide +kernel
theorem dX4_mix_161 : decode cX4_mix 161 = .ok (.getfield 23, 3) := by decide +kernel
theorem dX4_mix_164 : decode cX4_mix 164 = .ok (.iload_n 1, 1) := by decide +kernel
theorem dX4_mix_165 : decode cX4_mix 165 = .ok (.aload 5, 2) := by decide +kernel
theorem dX4_mix_167 : decode cX4_mix 167 = .ok (.aastore, 1) := by decide +kernel
theorem dX4_mix_168 : decode cX4_mix 168 = .ok (.aload_n 0, 1) := by decide +kernel
theorem dX4_mix_169 : decode cX4_mix 169 = .ok (.getfield 10, 3) := by decide +kernel
theorem dX4_mix_172 : decode cX4_mix 172 = .ok (.iload_n 1, 1) := by decide +kernel
theorem dX4_mix_173 : decode cX4_mix 173 = .ok (.iload_n 2, 1) := by decide +kernel
theorem dX4_mix_174 : decode cX4_mix 174 = .ok (.iload_n 3, 1) := by decide +kernel
theorem dX4_mix_175 : decode cX4_mix 175 = .ok (.iload 4, 2) := by decide +kernel
theorem dX4_mix_177 : decode cX4_mix 177 = .ok (.invokevirtual 133, 3) := by decide +kernel
theorem dX4_mix_180 : decode cX4_mix 180 = .ok (.aload 5, 2) := by decide +kernel
theorem dX4_mix_182 : decode cX4_mix 182 = .ok (.invokestatic 126, 3) := by decide +kernel
theorem dX4_mix_185 : decode cX4_mix 185 = .ok (.if_icmp .ne 7, 3) := by decide +kernel
theorem dX4_mix_188 : decode cX4_mix 188 = .ok (.iconst 1, 1) := by decide +kernel
theorem dX4_mix_189 : decode cX4_mix 189 = .ok (.goto 4, 3) := by decide +kernel
theorem dX4_mix_192 : decode cX4_mix 192 = .ok (.iconst 0, 1) := by decide +kernel
theorem dX4_mix_193 : decode cX4_mix 193 = .ok (.ireturn, 1) := by decide +kernel
set_option maxRecDepth 20000 in
theorem ggX4_turn_X4_draw : GoodIn wsX4_turn wsX4_draw := goodIn_r _ [12, 13, 14, 15, 16, 17, 18, 19, 20, 21, 112, 113, 114, 115, 116] (by decide +kernel) (by decide +kernel)
set_option maxRecDepth 20000 in
theorem gX4_turn_X4_draw : GoodIn wsX4_turn (wsV RX4 62 RX4 yX4_draw wsX4_draw) := goodIn_app (goodIn_of _ (by decide +kernel)) ggX4_turn_X4_draw
set_option maxRecDepth 20000 in
theorem ggX4_turn_X4_kept : GoodIn wsX4_turn wsX4_kept := goodIn_r _ [24] (by decide +kernel) (by decide +kernel)
set_option maxRecDepth 20000 in
theorem gX4_turn_X4_kept : GoodIn wsX4_turn (va_wsS RX4 119 yX4_kept wsX4_kept) := goodIn_app (goodIn_of _ (by decide +kernel)) ggX4_turn_X4_kept
set_option maxRecDepth 20000 in
theorem ggX4_turn_X3_turn : GoodIn wsX4_turn wsX3_turn := goodIn_ca (goodIn_ca (goodIn_r _ [29, 30, 31, 32, 33, 34, 28, 35, 36, 37, 38, 39, 40, 41, 42, 43, 44, 45, 46, 47, 48, 49, 50, 51, 52, 53, 54, 55, 56, 57, 58, 59, 60, 61, 62, 5, 63, 64, 65, 66, 67, 68, 69, 70, 71, 72, 73, 74, 75, 76, 77, 78, 79, 80, 81, 82, 83, 84, 85, 86, 87, 88, 89, 90, 91, 92, 93, 94, 95, 96, 97, 98, 99, 100, 101, 102, 103, 104, 105, 106, 107, 108, 117, 118, 119, 120, 121, 122, 123] (by decide +kernel) (by decide +kernel)) (goodIn_sub (fun _ h => List.mem_cons_of_mem _ (List.mem_append_left _ (List.mem_append_right _ h))) (by decide +kernel))) (goodIn_sub (fun _ h => List.mem_cons_of_mem _ (List.mem_append_right _ h)) (by decide +kernel))
set_option maxRecDepth 20000 in
theorem gX4_turn_X3_turn : GoodIn wsX4_turn (wsV RX4 139 RX3 yX3_turn wsX3_turn) := goodIn_app (goodIn_of _ (by decide +kernel)) ggX4_turn_X3_turn
set_option maxRecDepth 20000 in
theorem ggX4_turn_X4_steps : GoodIn wsX4_turn wsX4_steps := goodIn_r _ [111] (by decide +kernel) (by decide +kernel)
set_option maxRecDepth 20000 in
theorem gX4_turn_X4_steps : GoodIn wsX4_turn (va_wsS RX4 126 yX4_steps wsX4_steps) := goodIn_app (goodIn_of _ (by decide +kernel)) ggX4_turn_X4_steps
theorem dX4_turn_0 : decode cX4_turn 0 = .ok (.aload_n 0, 1) := by decide +kernel
theorem dX4_turn_1 : decode cX4_turn 1 = .ok (.iconst 5, 1) := by decide +kernel
theorem dX4_turn_2 : decode cX4_turn 2 = .ok (.invokevirtual 62, 3) := by decide +kernel
theorem dX4_turn_5 : decode cX4_turn 5 = .ok (.istore_n 1, 1) := by decide +kernel
theorem dX4_turn_6 : decode cX4_turn 6 = .ok (.aload_n 0, 1) := by decide +kernel
theorem dX4_turn_7 : decode cX4_turn 7 = .ok (.bipush 7, 2) := by decide +kernel
theorem dX4_turn_9 : decode cX4_turn 9 = .ok (.invokevirtual 62, 3) := by decide +kernel
theorem dX4_turn_12 : decode cX4_turn 12 = .ok (.istore_n 2, 1) := by decide +kernel
theorem dX4_turn_13 : decode cX4_turn 13 = .ok (.aload_n 0, 1) := by decide +kernel
theorem dX4_turn_14 : decode cX4_turn 14 = .ok (.iconst 4, 1) := by decide +kernel
theorem dX4_turn_15 : decode cX4_turn 15 = .ok (.invokevirtual 62, 3) := by decide +kernel
theorem dX4_turn_18 : decode cX4_turn 18 = .ok (.ifCond .ne 13, 3) := by decide +kernel
theorem dX4_turn_21 : decode cX4_turn 21 = .ok (.aload_n 0, 1) := by decide +kernel
theorem dX4_turn_22 : decode cX4_turn 22 = .ok (.sipush 201, 3) := by decide +kernel
theorem dX4_turn_25 : decode cX4_turn 25 = .ok (.invokevirtual 62, 3) := by decide +kernel
theorem dX4_turn_28 : decode cX4_turn 28 = .ok (.goto 9, 3) := by decide +kernel
theorem dX4_turn_31 : decode cX4_turn 31 = .ok (.aload_n 0, 1) := by decide +kernel
theorem dX4_turn_32 : decode cX4_turn 32 = .ok (.bipush 9, 2) := by decide +kernel
theorem dX4_turn_34 : decode cX4_turn 34 = .ok (.invokevirtual 62, 3) := by decide +kernel
theorem dX4_turn_37 : decode cX4_turn 37 = .ok (.istore_n 3, 1) := by decide +kernel
theorem dX4_turn_38 : decode cX4_turn 38 = .ok (.aload_n 0, 1) := by decide +kernel
theorem dX4_turn_39 : decode cX4_turn 39 = .ok (.getfield 23, 3) := by decide +kernel
theorem dX4_turn_42 : decode cX4_turn 42 = .ok (.iload_n 1, 1) := by decide +kernel
theorem dX4_turn_43 : decode cX4_turn 43 = .ok (.aaload, 1) := by decide +kernel
theorem dX4_turn_44 : decode cX4_turn 44 = .ok (.astore 4, 2) := by decide +kernel
theorem dX4_turn_46 : decode cX4_turn 46 = .ok (.sipush 201, 3) := by decide +kernel
theorem dX4_turn_49 : decode cX4_turn 49 = .ok (.newarray .int, 2) := by decide +kernel
theorem dX4_turn_51 : decode cX4_turn 51 = .ok (.astore 5, 2) := by decide +kernel
theorem dX4_turn_53 : decode cX4_turn 53 = .ok (.iconst 0, 1) := by decide +kernel
theorem dX4_turn_54 : decode cX4_turn 54 = .ok (.istore 6, 2) := by decide +kernel
theorem dX4_turn_56 : decode cX4_turn 56 = .ok (.iconst 0, 1) := by decide +kernel
theorem dX4_turn_57 : decode cX4_turn 57 = .ok (.istore 7, 2) := by decide +kernel
theorem dX4_turn_59 : decode cX4_turn 59 = .ok (.iload 7, 2) := by decide +kernel
theorem dX4_turn_61 : decode cX4_turn 61 = .ok (.sipush 200, 3) := by decide +kernel
theorem dX4_turn_64 : decode cX4_turn 64 = .ok (.if_icmp .gt 215, 3) := by decide +kernel
theorem dX4_turn_67 : decode cX4_turn 67 = .ok (.iload 6, 2) := by decide +kernel
theorem dX4_turn_69 : decode cX4_turn 69 = .ok (.iload 7, 2) := by decide +kernel
theorem dX4_turn_71 : decode cX4_turn 71 = .ok (.iconst 2, 1) := by decide +kernel
theorem dX4_turn_72 : decode cX4_turn 72 = .ok (.irem, 1) := by decide +kernel
theorem dX4_turn_73 : decode cX4_turn 73 = .ok (.iconst 1, 1) := by decide +kernel
theorem dX4_turn_74 : decode cX4_turn 74 = .ok (.if_icmp .ne 11, 3) := by decide +kernel
theorem dX4_turn_77 : decode cX4_turn 77 = .ok (.aload 4, 2) := by decide +kernel
theorem dX4_turn_79 : decode cX4_turn 79 = .ok (.iload 7, 2) := by decide +kernel
theorem dX4_turn_81 : decode cX4_turn 81 = .ok (.iaload, 1) := by decide +kernel
theorem dX4_turn_82 : decode cX4_turn 82 = .ok (.goto 4, 3) := by decide +kernel
theorem dX4_turn_85 : decode cX4_turn 85 = .ok (.iconst 0, 1) := by decide +kernel
theorem dX4_turn_86 : decode cX4_turn 86 = .ok (.iadd, 1) := by decide +kernel
theorem dX4_turn_87 : decode cX4_turn 87 = .ok (.istore 6, 2) := by decide +kernel
theorem dX4_turn_89 : decode cX4_turn 89 = .ok (.aload 5, 2) := by decide +kernel
theorem dX4_turn_91 : decode cX4_turn 91 = .ok (.iload 7, 2) := by decide +kernel
theorem dX4_turn_93 : decode cX4_turn 93 = .ok (.iload_n 2, 1) := by decide +kernel
theorem dX4_turn_94 : decode cX4_turn 94 = .ok (.ifCond .ne 12, 3) := by decide +kernel
theorem dX4_turn_97 : decode cX4_turn 97 = .ok (.aload 4, 2) := by decide +kernel
theorem dX4_turn_99 : decode cX4_turn 99 = .ok (.iload 7, 2) := by decide +kernel
theorem dX4_turn_101 : decode cX4_turn 101 = .ok (.iaload, 1) := by decide +kernel
theorem dX4_turn_102 : decode cX4_turn 102 = .ok (.ineg, 1) := by decide +kernel
theorem dX4_turn_103 : decode cX4_turn 103 = .ok (.goto 38, 3) := by decide +kernel
theorem dX4_turn_106 : decode cX4_turn 106 = .ok (.iload_n 2, 1) := by decide +kernel
theorem dX4_turn_107 : decode cX4_turn 107 = .ok (.iconst 3, 1) := by decide +kernel
theorem dX4_turn_108 : decode cX4_turn 108 = .ok (.if_icmp .ne 11, 3) := by decide +kernel
theorem dX4_turn_111 : decode cX4_turn 111 = .ok (.iload 6, 2) := by decide +kernel
theorem dX4_turn_113 : decode cX4_turn 113 = .ok (.invokestatic 119, 3) := by decide +kernel
theorem dX4_turn_116 : decode cX4_turn 116 = .ok (.goto 25, 3) := by decide +kernel
theorem dX4_turn_119 : decode cX4_turn 119 = .ok (.iload_n 2, 1) := by decide +kernel
theorem dX4_turn_120 : decode cX4_turn 120 = .ok (.iconst 4, 1) := by decide +kernel
theorem dX4_turn_121 : decode cX4_turn 121 = .ok (.if_icmp .ne 15, 3) := by decide +kernel
theorem dX4_turn_124 : decode cX4_turn 124 = .ok (.aload 4, 2) := by decide +kernel
theorem dX4_turn_126 : decode cX4_turn 126 = .ok (.sipush 200, 3) := by decide +kernel
theorem dX4_turn_129 : decode cX4_turn 129 = .ok (.iload 7, 2) := by decide +kernel
theorem dX4_turn_131 : decode cX4_turn 131 = .ok (.isub, 1) := by decide +kernel
theorem dX4_turn_132 : decode cX4_turn 132 = .ok (.iaload, 1) := by decide +kernel
theorem dX4_turn_133 : decode cX4_turn 133 = .ok (.goto 8, 3) := by decide +kernel
theorem dX4_turn_136 : decode cX4_turn 136 = .ok (.aload 4, 2) := by decide +kernel
theorem dX4_turn_138 : decode cX4_turn 138 = .ok (.iload 7, 2) := by decide +kernel
theorem dX4_turn_140 : decode cX4_turn 140 = .ok (.iaload, 1) := by decide +kernel
theorem dX4_turn_141 : decode cX4_turn 141 = .ok (.iastore, 1) := by decide +kernel
theorem dX4_turn_142 : decode cX4_turn 142 = .ok (.iconst 0, 1) := by decide +kernel
theorem dX4_turn_143 : decode cX4_turn 143 = .ok (.istore 8, 2) := by decide +kernel
theorem dX4_turn_145 : decode cX4_turn 145 = .ok (.iload 8, 2) := by decide +kernel
theorem dX4_turn_147 : decode cX4_turn 147 = .ok (.sipush 200, 3) := by decide +kernel
theorem dX4_turn_150 : decode cX4_turn 150 = .ok (.if_icmp .gt 123, 3) := by decide +kernel
theorem dX4_turn_153 : decode cX4_turn 153 = .ok (.iload_n 2, 1) := by decide +kernel
theorem dX4_turn_154 : decode cX4_turn 154 = .ok (.iconst 1, 1) := by decide +kernel
theorem dX4_turn_155 : decode cX4_turn 155 = .ok (.if_icmp .ne 18, 3) := by decide +kernel
theorem dX4_turn_158 : decode cX4_turn 158 = .ok (.iload 8, 2) := by decide +kernel
theorem dX4_turn_160 : decode cX4_turn 160 = .ok (.iload 7, 2) := by decide +kernel
theorem dX4_turn_162 : decode cX4_turn 162 = .ok (.if_icmp .gt 7, 3) := by decide +kernel
theorem dX4_turn_165 : decode cX4_turn 165 = .ok (.iconst 1, 1) := by decide +kernel
theorem dX4_turn_166 : decode cX4_turn 166 = .ok (.goto 49, 3) := by decide +kernel
theorem dX4_turn_169 : decode cX4_turn 169 = .ok (.iconst 0, 1) := by decide +kernel
theorem dX4_turn_170 : decode cX4_turn 170 = .ok (.goto 45, 3) := by decide +kernel
theorem dX4_turn_173 : decode cX4_turn 173 = .ok (.iload_n 2, 1) := by decide +kernel
theorem dX4_turn_174 : decode cX4_turn 174 = .ok (.iconst 2, 1) := by decide +kernel
theorem dX4_turn_175 : decode cX4_turn 175 = .ok (.if_icmp .ne 18, 3) := by decide +kernel
theorem dX4_turn_178 : decode cX4_turn 178 = .ok (.iload 8, 2) := by decide +kernel
theorem dX4_turn_180 : decode cX4_turn 180 = .ok (.iload 7, 2) := by decide +kernel
theorem dX4_turn_182 : decode cX4_turn 182 = .ok (.if_icmp .lt 7, 3) := by decide +kernel
theorem dX4_turn_185 : decode cX4_turn 185 = .ok (.iconst 1, 1) := by decide +kernel
theorem dX4_turn_186 : decode cX4_turn 186 = .ok (.goto 29, 3) := by decide +kernel
theorem dX4_turn_189 : decode cX4_turn 189 = .ok (.iconst 0, 1) := by decide +kernel
theorem dX4_turn_190 : decode cX4_turn 190 = .ok (.goto 25, 3) := by decide +kernel
theorem dX4_turn_193 : decode cX4_turn 193 = .ok (.iload_n 2, 1) := by decide +kernel
theorem dX4_turn_194 : decode cX4_turn 194 = .ok (.iconst 4, 1) := by decide +kernel
theorem dX4_turn_195 : decode cX4_turn 195 = .ok (.if_icmp .le 19, 3) := by decide +kernel
theorem dX4_turn_198 : decode cX4_turn 198 = .ok (.iload 8, 2) := by decide +kernel
theorem dX4_turn_200 : decode cX4_turn 200 = .ok (.iload 7, 2) := by decide +kernel
theorem dX4_turn_202 : decode cX4_turn 202 = .ok (.isub, 1) := by decide +kernel
theorem dX4_turn_203 : decode cX4_turn 203 = .ok (.invokestatic 136, 3) := by decide +kernel
theorem dX4_turn_206 : decode cX4_turn 206 = .ok (.iload_n 3, 1) := by decide +kernel
theorem dX4_turn_207 : decode cX4_turn 207 = .ok (.if_icmp .gt 7, 3) := by decide +kernel
theorem dX4_turn_210 : decode cX4_turn 210 = .ok (.iconst 1, 1) := by decide +kernel
theorem dX4_turn_211 : decode cX4_turn 211 = .ok (.goto 4, 3) := by decide +kernel
theorem dX4_turn_214 : decode cX4_turn 214 = .ok (.iconst 0, 1) := by decide +kernel
theorem dX4_turn_215 : decode cX4_turn 215 = .ok (.istore 9, 2) := by decide +kernel
theorem dX4_turn_217 : decode cX4_turn 217 = .ok (.iload 9, 2) := by decide +kernel
theorem dX4_turn_219 : decode cX4_turn 219 = .ok (.ifCond .eq 48, 3) := by decide +kernel
theorem dX4_turn_222 : decode cX4_turn 222 = .ok (.iload_n 2, 1) := by decide +kernel
theorem dX4_turn_223 : decode cX4_turn 223 = .ok (.bipush 6, 2) := by decide +kernel
theorem dX4_turn_225 : decode cX4_turn 225 = .ok (.if_icmp .ne 19, 3) := by decide +kernel
theorem dX4_turn_228 : decode cX4_turn 228 = .ok (.aload 4, 2) := by decide +kernel
theorem dX4_turn_230 : decode cX4_turn 230 = .ok (.iload 8, 2) := by decide +kernel
theorem dX4_turn_232 : decode cX4_turn 232 = .ok (.iaload, 1) := by decide +kernel
theorem dX4_turn_233 : decode cX4_turn 233 = .ok (.aload 5, 2) := by decide +kernel
theorem dX4_turn_235 : decode cX4_turn 235 = .ok (.iload 7, 2) := by decide +kernel
theorem dX4_turn_237 : decode cX4_turn 237 = .ok (.iaload, 1) := by decide +kernel
theorem dX4_turn_238 : decode cX4_turn 238 = .ok (.if_icmp .ge 29, 3) := by decide +kernel
theorem dX4_turn_241 : decode cX4_turn 241 = .ok (.goto 16, 3) := by decide +kernel
theorem dX4_turn_244 : decode cX4_turn 244 = .ok (.aload 4, 2) := by decide +kernel
theorem dX4_turn_246 : decode cX4_turn 246 = .ok (.iload 8, 2) := by decide +kernel
theorem dX4_turn_248 : decode cX4_turn 248 = .ok (.iaload, 1) := by decide +kernel
theorem dX4_turn_249 : decode cX4_turn 249 = .ok (.aload 5, 2) := by decide +kernel
theorem dX4_turn_251 : decode cX4_turn 251 = .ok (.iload 7, 2) := by decide +kernel
theorem dX4_turn_253 : decode cX4_turn 253 = .ok (.iaload, 1) := by decide +kernel
theorem dX4_turn_254 : decode cX4_turn 254 = .ok (.if_icmp .le 13, 3) := by decide +kernel
theorem dX4_turn_257 : decode cX4_turn 257 = .ok (.aload 5, 2) := by decide +kernel
theorem dX4_turn_259 : decode cX4_turn 259 = .ok (.iload 7, 2) := by decide +kernel
theorem dX4_turn_261 : decode cX4_turn 261 = .ok (.aload 4, 2) := by decide +kernel
theorem dX4_turn_263 : decode cX4_turn 263 = .ok (.iload 8, 2) := by decide +kernel
theorem dX4_turn_265 : decode cX4_turn 265 = .ok (.iaload, 1) := by decide +kernel
theorem dX4_turn_266 : decode cX4_turn 266 = .ok (.iastore, 1) := by decide +kernel
theorem dX4_turn_267 : decode cX4_turn 267 = .ok (.iinc 8 1, 3) := by decide +kernel
theorem dX4_turn_270 : decode cX4_turn 270 = .ok (.goto (-125), 3) := by decide +kernel
theorem dX4_turn_273 : decode cX4_turn 273 = .ok (.iinc 7 1, 3) := by decide +kernel
theorem dX4_turn_276 : decode cX4_turn 276 = .ok (.goto (-217), 3) := by decide +kernel
theorem dX4_turn_279 : decode cX4_turn 279 = .ok (.aload_n 0, 1) := by decide +kernel
theorem dX4_turn_280 : decode cX4_turn 280 = .ok (.getfield 23, 3) := by decide +kernel
theorem dX4_turn_283 : decode cX4_turn 283 = .ok (.iload_n 1, 1) := by decide +kernel
theorem dX4_turn_284 : decode cX4_turn 284 = .ok (.aload 5, 2) := by decide +kernel
theorem dX4_turn_286 : decode cX4_turn 286 = .ok (.aastore, 1) := by decide +kernel
theorem dX4_turn_287 : decode cX4_turn 287 = .ok (.aload_n 0, 1) := by decide +kernel
theorem dX4_turn_288 : decode cX4_turn 288 = .ok (.getfield 10, 3) := by decide +kernel
theorem dX4_turn_291 : decode cX4_turn 291 = .ok (.iload_n 1, 1) := by decide +kernel
theorem dX4_turn_292 : decode cX4_turn 292 = .ok (.iload_n 2, 1) := by decide +kernel
theorem dX4_turn_293 : decode cX4_turn 293 = .ok (.iload_n 3, 1) := by decide +kernel
theorem dX4_turn_294 : decode cX4_turn 294 = .ok (.invokevirtual 139, 3) := by decide +kernel
theorem dX4_turn_297 : decode cX4_turn 297 = .ok (.aload 5, 2) := by decide +kernel
theorem dX4_turn_299 : decode cX4_turn 299 = .ok (.invokestatic 126, 3) := by decide +kernel
theorem dX4_turn_302 : decode cX4_turn 302 = .ok (.if_icmp .ne 7, 3) := by decide +kernel
theorem dX4_turn_305 : decode cX4_turn 305 = .ok (.iconst 1, 1) := by decide +kernel
theorem dX4_turn_306 : decode cX4_turn 306 = .ok (.goto 4, 3) := by decide +kernel
theorem dX4_turn_309 : decode cX4_turn 309 = .ok (.iconst 0, 1) := by decide +kernel
theorem dX4_turn_310 : decode cX4_turn 310 = .ok (.ireturn, 1) := by decide +kernel
set_option maxRecDepth 20000 in
theorem ggX4_thick_X4_isIn : GoodIn wsX4_thick wsX4_isIn := goodIn_r _ [5] (by decide +kernel) (by decide +kernel)
set_option maxRecDepth 20000 in
theorem gX4_thick_X4_isIn : GoodIn wsX4_thick (va_wsS RX4 90 yX4_isIn wsX4_isIn) := goodIn_app (goodIn_of _ (by decide +kernel)) ggX4_thick_X4_isIn
theorem dX4_thick_0 : decode cX4_thick 0 = .ok (.iconst 0, 1) := by decide +kernel
theorem dX4_thick_1 : decode cX4_thick 1 = .ok (.istore_n 3, 1) := by decide +kernel
theorem dX4_thick_2 : decode cX4_thick 2 = .ok (.iconst 0, 1) := by decide +kernel
theorem dX4_thick_3 : decode cX4_thick 3 = .ok (.istore 4, 2) := by decide +kernel
theorem dX4_thick_5 : decode cX4_thick 5 = .ok (.iload 4, 2) := by decide +kernel
theorem dX4_thick_7 : decode cX4_thick 7 = .ok (.bipush 8, 2) := by decide +kernel
theorem dX4_thick_9 : decode cX4_thick 9 = .ok (.if_icmp .ge 38, 3) := by decide +kernel
theorem dX4_thick_12 : decode cX4_thick 12 = .ok (.iload_n 1, 1) := by decide +kernel
theorem dX4_thick_13 : decode cX4_thick 13 = .ok (.iconst 1, 1) := by decide +kernel
theorem dX4_thick_14 : decode cX4_thick 14 = .ok (.iload 4, 2) := by decide +kernel
theorem dX4_thick_16 : decode cX4_thick 16 = .ok (.ishl, 1) := by decide +kernel
theorem dX4_thick_17 : decode cX4_thick 17 = .ok (.idiv, 1) := by decide +kernel
theorem dX4_thick_18 : decode cX4_thick 18 = .ok (.iconst 2, 1) := by decide +kernel
theorem dX4_thick_19 : decode cX4_thick 19 = .ok (.irem, 1) := by decide +kernel
theorem dX4_thick_20 : decode cX4_thick 20 = .ok (.iconst 1, 1) := by decide +kernel
theorem dX4_thick_21 : decode cX4_thick 21 = .ok (.if_icmp .ne 20, 3) := by decide +kernel
theorem dX4_thick_24 : decode cX4_thick 24 = .ok (.aload_n 0, 1) := by decide +kernel
theorem dX4_thick_25 : decode cX4_thick 25 = .ok (.getfield 18, 3) := by decide +kernel
theorem dX4_thick_28 : decode cX4_thick 28 = .ok (.iload 4, 2) := by decide +kernel
theorem dX4_thick_30 : decode cX4_thick 30 = .ok (.aaload, 1) := by decide +kernel
theorem dX4_thick_31 : decode cX4_thick 31 = .ok (.iload_n 2, 1) := by decide +kernel
theorem dX4_thick_32 : decode cX4_thick 32 = .ok (.invokestatic 90, 3) := by decide +kernel
theorem dX4_thick_35 : decode cX4_thick 35 = .ok (.ifCond .eq 6, 3) := by decide +kernel
theorem dX4_thick_38 : decode cX4_thick 38 = .ok (.iinc 3 1, 3) := by decide +kernel
theorem dX4_thick_41 : decode cX4_thick 41 = .ok (.iinc 4 1, 3) := by decide +kernel
theorem dX4_thick_44 : decode cX4_thick 44 = .ok (.goto (-39), 3) := by decide +kernel
theorem dX4_thick_47 : decode cX4_thick 47 = .ok (.iload_n 3, 1) := by decide +kernel
theorem dX4_thick_48 : decode cX4_thick 48 = .ok (.ireturn, 1) := by decide +kernel
set_option maxRecDepth 20000 in
theorem ggX4_thick__X4_draw : GoodIn wsX4_thick_ wsX4_draw := goodIn_r _ [7, 8, 9, 10, 11, 12, 13, 14, 15, 16, 85, 86, 87, 88, 89] (by decide +kernel) (by decide +kernel)
set_option maxRecDepth 20000 in
theorem gX4_thick__X4_draw : GoodIn wsX4_thick_ (wsV RX4 62 RX4 yX4_draw wsX4_draw) := goodIn_app (goodIn_of _ (by decide +kernel)) ggX4_thick__X4_draw
set_option maxRecDepth 20000 in
theorem ggX4_thick__X4_thick : GoodIn wsX4_thick_ wsX4_thick := goodIn_r _ [20, 21, 22, 23, 6, 24, 85, 86, 87, 88, 89] (by decide +kernel) (by decide +kernel)
set_option maxRecDepth 20000 in
theorem gX4_thick__X4_thick : GoodIn wsX4_thick_ (wsV RX4 142 RX4 yX4_thick wsX4_thick) := goodIn_app (goodIn_of _ (by decide +kernel)) ggX4_thick__X4_thick
set_option maxRecDepth 20000 in
theorem ggX4_thick__X3_thick : GoodIn wsX4_thick_ wsX3_thick := goodIn_ca (goodIn_ca (goodIn_r _ [29, 30, 31, 32, 28, 33, 34, 35, 36, 37, 38, 39, 40, 41, 42, 43, 44, 45, 46, 47, 48, 49, 50, 51, 52, 53, 54, 55, 56, 57, 58, 59, 60, 61, 62, 63, 64, 65, 66, 67, 68, 69, 70, 71, 72, 73, 74, 75, 76, 77, 78, 79, 80, 81, 90, 91, 92, 93, 94, 95, 96, 97] (by decide +kernel) (by decide +kernel)) (goodIn_sub (fun _ h => List.mem_cons_of_mem _ (List.mem_append_left _ (List.mem_append_right _ h))) (by decide +kernel))) (goodIn_sub (fun _ h => List.mem_cons_of_mem _ (List.mem_append_right _ h)) (by decide +kernel))
set_option maxRecDepth 20000 in
theorem gX4_thick__X3_thick : GoodIn wsX4_thick_ (wsV RX4 145 RX3 yX3_thick wsX3_thick) := goodIn_app (goodIn_of _ (by decide +kernel)) ggX4_thick__X3_thick
set_option maxRecDepth 20000 in
theorem ggX4_thick__X4_steps : GoodIn wsX4_thick_ wsX4_steps := goodIn_r _ [84] (by decide +kernel) (by decide +kernel)
set_option maxRecDepth 20000 in
theorem gX4_thick__X4_steps : GoodIn wsX4_thick_ (va_wsS RX4 126 yX4_steps wsX4_steps) := goodIn_app (goodIn_of _ (by decide +kernel)) ggX4_thick__X4_steps
theorem dX4_thick__0 : decode cX4_thick_ 0 = .ok (.aload_n 0, 1) := by decide +kernel
theorem dX4_thick__1 : decode cX4_thick_ 1 = .ok (.iconst 5, 1) := by decide +kernel
theorem dX4_thick__2 : decode cX4_thick_ 2 = .ok (.invokevirtual 62, 3) := by decide +kernel
theorem dX4_thick__5 : decode cX4_thick_ 5 = .ok (.istore_n 1, 1) := by decide +kernel
theorem dX4_thick__6 : decode cX4_thick_ 6 = .ok (.aload_n 0, 1) := by decide +kernel
theorem dX4_thick__7 : decode cX4_thick_ 7 = .ok (.sipush 256, 3) := by decide +kernel
theorem dX4_thick__10 : decode cX4_thick_ 10 = .ok (.invokevirtual 62, 3) := by decide +kernel
theorem dX4_thick__13 : decode cX4_thick_ 13 = .ok (.istore_n 2, 1) := by decide +kernel
theorem dX4_thick__14 : decode cX4_thick_ 14 = .ok (.iconst 0, 1) := by decide +kernel
theorem dX4_thick__15 : decode cX4_thick_ 15 = .ok (.istore_n 3, 1) := by decide +kernel
theorem dX4_thick__16 : decode cX4_thick_ 16 = .ok (.iload_n 3, 1) := by decide +kernel
theorem dX4_thick__17 : decode cX4_thick_ 17 = .ok (.sipush 200, 3) := by decide +kernel
theorem dX4_thick__20 : decode cX4_thick_ 20 = .ok (.if_icmp .gt 23, 3) := by decide +kernel
theorem dX4_thick__23 : decode cX4_thick_ 23 = .ok (.aload_n 0, 1) := by decide +kernel
theorem dX4_thick__24 : decode cX4_thick_ 24 = .ok (.getfield 23, 3) := by decide +kernel
theorem dX4_thick__27 : decode cX4_thick_ 27 = .ok (.iload_n 1, 1) := by decide +kernel
theorem dX4_thick__28 : decode cX4_thick_ 28 = .ok (.aaload, 1) := by decide +kernel
theorem dX4_thick__29 : decode cX4_thick_ 29 = .ok (.iload_n 3, 1) := by decide +kernel
theorem dX4_thick__30 : decode cX4_thick_ 30 = .ok (.aload_n 0, 1) := by decide +kernel
theorem dX4_thick__31 : decode cX4_thick_ 31 = .ok (.iload_n 2, 1) := by decide +kernel
theorem dX4_thick__32 : decode cX4_thick_ 32 = .ok (.iload_n 3, 1) := by decide +kernel
theorem dX4_thick__33 : decode cX4_thick_ 33 = .ok (.invokevirtual 142, 3) := by decide +kernel
theorem dX4_thick__36 : decode cX4_thick_ 36 = .ok (.iastore, 1) := by decide +kernel
theorem dX4_thick__37 : decode cX4_thick_ 37 = .ok (.iinc 3 1, 3) := by decide +kernel
theorem dX4_thick__40 : decode cX4_thick_ 40 = .ok (.goto (-24), 3) := by decide +kernel
theorem dX4_thick__43 : decode cX4_thick_ 43 = .ok (.aload_n 0, 1) := by decide +kernel
theorem dX4_thick__44 : decode cX4_thick_ 44 = .ok (.getfield 10, 3) := by decide +kernel
theorem dX4_thick__47 : decode cX4_thick_ 47 = .ok (.iload_n 1, 1) := by decide +kernel
theorem dX4_thick__48 : decode cX4_thick_ 48 = .ok (.iload_n 2, 1) := by decide +kernel
theorem dX4_thick__49 : decode cX4_thick_ 49 = .ok (.invokevirtual 145, 3) := by decide +kernel
theorem dX4_thick__52 : decode cX4_thick_ 52 = .ok (.aload_n 0, 1) := by decide +kernel
theorem dX4_thick__53 : decode cX4_thick_ 53 = .ok (.getfield 23, 3) := by decide +kernel
theorem dX4_thick__56 : decode cX4_thick_ 56 = .ok (.iload_n 1, 1) := by decide +kernel
theorem dX4_thick__57 : decode cX4_thick_ 57 = .ok (.aaload, 1) := by decide +kernel
theorem dX4_thick__58 : decode cX4_thick_ 58 = .ok (.invokestatic 126, 3) := by decide +kernel
theorem dX4_thick__61 : decode cX4_thick_ 61 = .ok (.if_icmp .ne 7, 3) := by decide +kernel
theorem dX4_thick__64 : decode cX4_thick_ 64 = .ok (.iconst 1, 1) := by decide +kernel
theorem dX4_thick__65 : decode cX4_thick_ 65 = .ok (.goto 4, 3) := by decide +kernel
theorem dX4_thick__68 : decode cX4_thick_ 68 = .ok (.iconst 0, 1) := by decide +kernel
theorem dX4_thick__69 : decode cX4_thick_ 69 = .ok (.ireturn, 1) := by decide +kernel
set_option maxRecDepth 20000 in
theorem ggX4_where_X4_draw : GoodIn wsX4_where wsX4_draw := goodIn_r _ [9, 10, 11, 12, 13, 14, 15, 16, 17, 18, 75, 76, 77, 78, 79] (by decide +kernel) (by decide +kernel)
set_option maxRecDepth 20000 in
theorem gX4_where_X4_draw : GoodIn wsX4_where (wsV RX4 62 RX4 yX4_draw wsX4_draw) := goodIn_app (goodIn_of _ (by decide +kernel)) ggX4_where_X4_draw
set_option maxRecDepth 20000 in
theorem ggX4_where_X4_spans : GoodIn wsX4_where wsX4_spans := goodIn_r _ [21, 22, 23, 24, 25, 8, 26, 27, 28, 29, 30] (by decide +kernel) (by decide +kernel)
set_option maxRecDepth 20000 in
theorem gX4_where_X4_spans : GoodIn wsX4_where (va_wsS RX4 82 yX4_spans wsX4_spans) := goodIn_app (goodIn_of _ (by decide +kernel)) ggX4_where_X4_spans
set_option maxRecDepth 20000 in
theorem ggX4_where_X3_where : GoodIn wsX4_where wsX3_where := goodIn_ca (goodIn_r _ [35, 36, 37, 38, 34, 39, 40, 41, 42, 43, 44, 45, 46, 47, 48, 49, 50, 51, 52, 53, 54, 55, 56, 57, 58, 59, 60, 61, 62, 63, 64, 65, 66, 67, 68, 69, 70, 71, 80, 81, 82, 83, 84, 85, 86, 87] (by decide +kernel) (by decide +kernel)) (goodIn_sub (fun _ h => List.mem_cons_of_mem _ (List.mem_append_right _ h)) (by decide +kernel))
set_option maxRecDepth 20000 in
theorem gX4_where_X3_where : GoodIn wsX4_where (wsV RX4 146 RX3 yX3_where wsX3_where) := goodIn_app (goodIn_of _ (by decide +kernel)) ggX4_where_X3_where
set_option maxRecDepth 20000 in
theorem ggX4_where_X4_count : GoodIn wsX4_where wsX4_count := goodIn_r _ [74] (by decide +kernel) (by decide +kernel)
set_option maxRecDepth 20000 in
theorem gX4_where_X4_count : GoodIn wsX4_where (va_wsS RX4 98 yX4_count wsX4_count) := goodIn_app (goodIn_of _ (by decide +kernel)) ggX4_where_X4_count
theorem dX4_where_0 : decode cX4_where 0 = .ok (.aload_n 0, 1) := by decide +kernel
theorem dX4_where_1 : decode cX4_where 1 = .ok (.bipush 8, 2) := by decide +kernel
theorem dX4_where_3 : decode cX4_where 3 = .ok (.invokevirtual 62, 3) := by decide +kernel
theorem dX4_where_6 : decode cX4_where 6 = .ok (.istore_n 1, 1) := by decide +kernel
theorem dX4_where_7 : decode cX4_where 7 = .ok (.aload_n 0, 1) := by decide +kernel
theorem dX4_where_8 : decode cX4_where 8 = .ok (.iconst 5, 1) := by decide +kernel
theorem dX4_where_9 : decode cX4_where 9 = .ok (.invokevirtual 62, 3) := by decide +kernel
theorem dX4_where_12 : decode cX4_where 12 = .ok (.istore_n 2, 1) := by decide +kernel
theorem dX4_where_13 : decode cX4_where 13 = .ok (.aload_n 0, 1) := by decide +kernel
theorem dX4_where_14 : decode cX4_where 14 = .ok (.bipush 20, 2) := by decide +kernel
theorem dX4_where_16 : decode cX4_where 16 = .ok (.invokevirtual 62, 3) := by decide +kernel
theorem dX4_where_19 : decode cX4_where 19 = .ok (.iconst 5, 1) := by decide +kernel
theorem dX4_where_20 : decode cX4_where 20 = .ok (.isub, 1) := by decide +kernel
theorem dX4_where_21 : decode cX4_where 21 = .ok (.istore_n 3, 1) := by decide +kernel
theorem dX4_where_22 : decode cX4_where 22 = .ok (.iload_n 3, 1) := by decide +kernel
theorem dX4_where_23 : decode cX4_where 23 = .ok (.aload_n 0, 1) := by decide +kernel
theorem dX4_where_24 : decode cX4_where 24 = .ok (.bipush 12, 2) := by decide +kernel
theorem dX4_where_26 : decode cX4_where 26 = .ok (.invokevirtual 62, 3) := by decide +kernel
theorem dX4_where_29 : decode cX4_where 29 = .ok (.iadd, 1) := by decide +kernel
theorem dX4_where_30 : decode cX4_where 30 = .ok (.iconst 1, 1) := by decide +kernel
theorem dX4_where_31 : decode cX4_where 31 = .ok (.isub, 1) := by decide +kernel
theorem dX4_where_32 : decode cX4_where 32 = .ok (.istore 4, 2) := by decide +kernel
theorem dX4_where_34 : decode cX4_where 34 = .ok (.sipush 201, 3) := by decide +kernel
theorem dX4_where_37 : decode cX4_where 37 = .ok (.newarray .boolean, 2) := by decide +kernel
theorem dX4_where_39 : decode cX4_where 39 = .ok (.astore 5, 2) := by decide +kernel
theorem dX4_where_41 : decode cX4_where 41 = .ok (.iconst 0, 1) := by decide +kernel
theorem dX4_where_42 : decode cX4_where 42 = .ok (.istore 6, 2) := by decide +kernel
theorem dX4_where_44 : decode cX4_where 44 = .ok (.iload 6, 2) := by decide +kernel
theorem dX4_where_46 : decode cX4_where 46 = .ok (.sipush 200, 3) := by decide +kernel
theorem dX4_where_49 : decode cX4_where 49 = .ok (.if_icmp .gt 46, 3) := by decide +kernel
theorem dX4_where_52 : decode cX4_where 52 = .ok (.aload 5, 2) := by decide +kernel
theorem dX4_where_54 : decode cX4_where 54 = .ok (.iload 6, 2) := by decide +kernel
theorem dX4_where_56 : decode cX4_where 56 = .ok (.aload_n 0, 1) := by decide +kernel
theorem dX4_where_57 : decode cX4_where 57 = .ok (.getfield 23, 3) := by decide +kernel
theorem dX4_where_60 : decode cX4_where 60 = .ok (.iload_n 2, 1) := by decide +kernel
theorem dX4_where_61 : decode cX4_where 61 = .ok (.aaload, 1) := by decide +kernel
theorem dX4_where_62 : decode cX4_where 62 = .ok (.iload 6, 2) := by decide +kernel
theorem dX4_where_64 : decode cX4_where 64 = .ok (.iaload, 1) := by decide +kernel
theorem dX4_where_65 : decode cX4_where 65 = .ok (.iload_n 3, 1) := by decide +kernel
theorem dX4_where_66 : decode cX4_where 66 = .ok (.if_icmp .lt 21, 3) := by decide +kernel
theorem dX4_where_69 : decode cX4_where 69 = .ok (.aload_n 0, 1) := by decide +kernel
theorem dX4_where_70 : decode cX4_where 70 = .ok (.getfield 23, 3) := by decide +kernel
theorem dX4_where_73 : decode cX4_where 73 = .ok (.iload_n 2, 1) := by decide +kernel
theorem dX4_where_74 : decode cX4_where 74 = .ok (.aaload, 1) := by decide +kernel
theorem dX4_where_75 : decode cX4_where 75 = .ok (.iload 6, 2) := by decide +kernel
theorem dX4_where_77 : decode cX4_where 77 = .ok (.iaload, 1) := by decide +kernel
theorem dX4_where_78 : decode cX4_where 78 = .ok (.iload 4, 2) := by decide +kernel
theorem dX4_where_80 : decode cX4_where 80 = .ok (.if_icmp .gt 7, 3) := by decide +kernel
theorem dX4_where_83 : decode cX4_where 83 = .ok (.iconst 1, 1) := by decide +kernel
theorem dX4_where_84 : decode cX4_where 84 = .ok (.goto 4, 3) := by decide +kernel
theorem dX4_where_87 : decode cX4_where 87 = .ok (.iconst 0, 1) := by decide +kernel
theorem dX4_where_88 : decode cX4_where 88 = .ok (.bastore, 1) := by decide +kernel
theorem dX4_where_89 : decode cX4_where 89 = .ok (.iinc 6 1, 3) := by decide +kernel
theorem dX4_where_92 : decode cX4_where 92 = .ok (.goto (-48), 3) := by decide +kernel
theorem dX4_where_95 : decode cX4_where 95 = .ok (.aload_n 0, 1) := by decide +kernel
theorem dX4_where_96 : decode cX4_where 96 = .ok (.getfield 18, 3) := by decide +kernel
theorem dX4_where_99 : decode cX4_where 99 = .ok (.iload_n 1, 1) := by decide +kernel
theorem dX4_where_100 : decode cX4_where 100 = .ok (.aload 5, 2) := by decide +kernel
theorem dX4_where_102 : decode cX4_where 102 = .ok (.invokestatic 82, 3) := by decide +kernel
theorem dX4_where_105 : decode cX4_where 105 = .ok (.aastore, 1) := by decide +kernel
theorem dX4_where_106 : decode cX4_where 106 = .ok (.aload_n 0, 1) := by decide +kernel
theorem dX4_where_107 : decode cX4_where 107 = .ok (.getfield 10, 3) := by decide +kernel
theorem dX4_where_110 : decode cX4_where 110 = .ok (.iload_n 1, 1) := by decide +kernel
theorem dX4_where_111 : decode cX4_where 111 = .ok (.iload_n 2, 1) := by decide +kernel
theorem dX4_where_112 : decode cX4_where 112 = .ok (.iload_n 3, 1) := by decide +kernel
theorem dX4_where_113 : decode cX4_where 113 = .ok (.iload 4, 2) := by decide +kernel
theorem dX4_where_115 : decode cX4_where 115 = .ok (.invokevirtual 146, 3) := by decide +kernel
theorem dX4_where_118 : decode cX4_where 118 = .ok (.aload_n 0, 1) := by decide +kernel
theorem dX4_where_119 : decode cX4_where 119 = .ok (.getfield 18, 3) := by decide +kernel
theorem dX4_where_122 : decode cX4_where 122 = .ok (.iload_n 1, 1) := by decide +kernel
theorem dX4_where_123 : decode cX4_where 123 = .ok (.aaload, 1) := by decide +kernel
theorem dX4_where_124 : decode cX4_where 124 = .ok (.invokestatic 98, 3) := by decide +kernel
theorem dX4_where_127 : decode cX4_where 127 = .ok (.if_icmp .ne 7, 3) := by decide +kernel
theorem dX4_where_130 : decode cX4_where 130 = .ok (.iconst 1, 1) := by decide +kernel
theorem dX4_where_131 : decode cX4_where 131 = .ok (.goto 4, 3) := by decide +kernel
theorem dX4_where_134 : decode cX4_where 134 = .ok (.iconst 0, 1) := by decide +kernel
theorem dX4_where_135 : decode cX4_where 135 = .ok (.ireturn, 1) := by decide +kernel
set_option maxRecDepth 20000 in
theorem ggX4_found_X4_span : GoodIn wsX4_found wsX4_span := goodIn_ca (goodIn_ca (goodIn_r _ [5, 6, 7, 8, 9, 10, 4, 11, 12, 13, 14, 15, 16, 17, 18, 19, 20, 21, 22, 23, 24, 25, 26, 27, 28, 29, 30, 31, 32, 33, 34, 35, 36, 37, 38, 39, 40, 41, 42, 43, 44, 45, 46, 47, 48, 49, 50, 51, 52, 53, 54, 55, 56, 57, 58, 59, 60, 61, 62, 63, 64, 65, 66, 67, 68, 69, 70, 71, 72, 73, 74, 75, 76, 77, 78, 79, 80, 81, 82, 83, 84, 85, 86, 87, 88, 89, 90, 91, 92, 157, 158, 159, 160, 161, 162, 163, 164, 165, 166, 167, 168] (by decide +kernel) (by decide +kernel)) (goodIn_sub (fun _ h => List.mem_cons_of_mem _ (List.mem_append_left _ (List.mem_append_right _ h))) (by decide +kernel))) (goodIn_sub (fun _ h => List.mem_cons_of_mem _ (List.mem_append_right _ h)) (by decide +kernel))
set_option maxRecDepth 20000 in
theorem gX4_found_X4_span : GoodIn wsX4_found (wsV RX4 149 RX4 yX4_span wsX4_span) := goodIn_app (goodIn_of _ (by decide +kernel)) ggX4_found_X4_span
set_option maxRecDepth 20000 in
theorem ggX4_found_X4_raise : GoodIn wsX4_found wsX4_raise := goodIn_ca (goodIn_ca (goodIn_r _ [96, 97, 7, 8, 9, 10, 4, 11, 12, 13, 14, 15, 16, 17, 18, 19, 20, 21, 22, 23, 24, 25, 26, 27, 28, 29, 30, 31, 32, 98, 99, 100, 101, 102, 103, 51, 104, 67, 68, 105, 106, 107, 108, 57, 58, 109, 64, 65, 66, 69, 70, 71, 75, 76, 77, 72, 73, 74, 110, 111, 112, 113, 114, 115, 116, 117, 118, 119, 120, 121, 122, 123, 124, 125, 126, 127, 128, 129, 157, 158, 159, 160, 161, 162, 163, 164, 165, 166, 167, 169] (by decide +kernel) (by decide +kernel)) (goodIn_sub (fun _ h => List.mem_cons_of_mem _ (List.mem_append_right _ h)) (by decide +kernel))) (goodIn_sub (fun _ h => List.mem_cons_of_mem _ (List.mem_append_left _ (List.mem_append_right _ h))) (by decide +kernel))
set_option maxRecDepth 20000 in
theorem gX4_found_X4_raise : GoodIn wsX4_found (wsV RX4 152 RX4 yX4_raise wsX4_raise) := goodIn_app (goodIn_of _ (by decide +kernel)) ggX4_found_X4_raise
set_option maxRecDepth 20000 in
theorem ggX4_found_X4_thick_ : GoodIn wsX4_found wsX4_thick_ := goodIn_ca (goodIn_ca (goodIn_r _ [133, 97, 7, 8, 9, 10, 4, 11, 12, 13, 14, 15, 16, 17, 18, 19, 20, 134, 135, 136, 137, 6, 138, 139, 140, 141, 142, 143, 51, 144, 105, 106, 107, 108, 57, 58, 109, 145, 146, 147, 67, 68, 148, 149, 150, 151, 152, 153, 154, 155, 59, 60, 61, 62, 63, 156, 85, 86, 81, 87, 88, 116, 117, 118, 113, 119, 115, 120, 26, 27, 28, 121, 30, 31, 122, 123, 124, 125, 126, 111, 112, 114, 127, 128, 129, 157, 158, 159, 160, 161, 162, 163, 164, 165, 166, 167, 168, 169] (by decide +kernel) (by decide +kernel)) (goodIn_sub (fun _ h => List.mem_cons_of_mem _ (List.mem_append_left _ (List.mem_append_right _ h))) (by decide +kernel))) (goodIn_sub (fun _ h => List.mem_cons_of_mem _ (List.mem_append_right _ h)) (by decide +kernel))
set_option maxRecDepth 20000 in
theorem gX4_found_X4_thick_ : GoodIn wsX4_found (wsV RX4 154 RX4 yX4_thick_ wsX4_thick_) := goodIn_app (goodIn_of _ (by decide +kernel)) ggX4_found_X4_thick_
theorem dX4_found_0 : decode cX4_found 0 = .ok (.iconst 0, 1) := by decide +kernel
theorem dX4_found_1 : decode cX4_found 1 = .ok (.istore_n 1, 1) := by decide +kernel
theorem dX4_found_2 : decode cX4_found 2 = .ok (.iload_n 1, 1) := by decide +kernel
theorem dX4_found_3 : decode cX4_found 3 = .ok (.bipush 14, 2) := by decide +kernel
theorem dX4_found_5 : decode cX4_found 5 = .ok (.if_icmp .ge 18, 3) := by decide +kernel
theorem dX4_found_8 : decode cX4_found 8 = .ok (.aload_n 0, 1) := by decide +kernel
theorem dX4_found_9 : decode cX4_found 9 = .ok (.invokevirtual 149, 3) := by decide +kernel
theorem dX4_found_12 : decode cX4_found 12 = .ok (.ifCond .ne 5, 3) := by decide +kernel
theorem dX4_found_15 : decode cX4_found 15 = .ok (.iconst 0, 1) := by decide +kernel
theorem dX4_found_16 : decode cX4_found 16 = .ok (.ireturn, 1) := by decide +kernel
theorem dX4_found_17 : decode cX4_found 17 = .ok (.iinc 1 1, 3) := by decide +kernel
theorem dX4_found_20 : decode cX4_found 20 = .ok (.goto (-18), 3) := by decide +kernel
theorem dX4_found_23 : decode cX4_found 23 = .ok (.aload_n 0, 1) := by decide +kernel
theorem dX4_found_24 : decode cX4_found 24 = .ok (.invokevirtual 152, 3) := by decide +kernel
theorem dX4_found_27 : decode cX4_found 27 = .ok (.ifCond .eq 21, 3) := by decide +kernel
theorem dX4_found_30 : decode cX4_found 30 = .ok (.aload_n 0, 1) := by decide +kernel
theorem dX4_found_31 : decode cX4_found 31 = .ok (.invokevirtual 152, 3) := by decide +kernel
theorem dX4_found_34 : decode cX4_found 34 = .ok (.ifCond .eq 14, 3) := by decide +kernel
theorem dX4_found_37 : decode cX4_found 37 = .ok (.aload_n 0, 1) := by decide +kernel
theorem dX4_found_38 : decode cX4_found 38 = .ok (.invokevirtual 154, 3) := by decide +kernel
theorem dX4_found_41 : decode cX4_found 41 = .ok (.ifCond .eq 7, 3) := by decide +kernel
theorem dX4_found_44 : decode cX4_found 44 = .ok (.iconst 1, 1) := by decide +kernel
theorem dX4_found_45 : decode cX4_found 45 = .ok (.goto 4, 3) := by decide +kernel
theorem dX4_found_48 : decode cX4_found 48 = .ok (.iconst 0, 1) := by decide +kernel
theorem dX4_found_49 : decode cX4_found 49 = .ok (.ireturn, 1) := by decide +kernel
set_option maxRecDepth 20000 in
theorem ggX4_actSet_X4_draw : GoodIn wsX4_actSet wsX4_draw := goodIn_r _ [5, 6, 7, 8, 9, 10, 11, 12, 13, 14, 242, 243, 244, 245, 246] (by decide +kernel) (by decide +kernel)
set_option maxRecDepth 20000 in
theorem gX4_actSet_X4_draw : GoodIn wsX4_actSet (wsV RX4 62 RX4 yX4_draw wsX4_draw) := goodIn_app (goodIn_of _ (by decide +kernel)) ggX4_actSet_X4_draw
set_option maxRecDepth 20000 in
theorem ggX4_actSet_X4_join : GoodIn wsX4_actSet wsX4_join := goodIn_ca (goodIn_ca (goodIn_r _ [18, 19, 20, 21, 1, 2, 3, 4, 5, 6, 7, 8, 9, 10, 11, 12, 13, 14, 22, 23, 24, 25, 26, 27, 28, 29, 30, 31, 32, 33, 34, 35, 36, 37, 38, 39, 40, 41, 42, 43, 44, 45, 46, 47, 48, 49, 50, 51, 52, 53, 54, 55, 56, 57, 58, 59, 60, 61, 62, 63, 64, 65, 66, 67, 68, 69, 70, 71, 72, 73, 74, 75, 76, 77, 78, 242, 243, 244, 245, 246, 247, 248, 249, 250, 251, 252, 253] (by decide +kernel) (by decide +kernel)) (goodIn_sub (fun _ h => List.mem_cons_of_mem _ (List.mem_append_left _ (List.mem_append_right _ h))) (by decide +kernel))) (goodIn_sub (fun _ h => List.mem_cons_of_mem _ (List.mem_append_right _ h)) (by decide +kernel))
set_option maxRecDepth 20000 in
theorem gX4_actSet_X4_join : GoodIn wsX4_actSet (wsV RX4 156 RX4 yX4_join wsX4_join) := goodIn_app (goodIn_of _ (by decide +kernel)) ggX4_actSet_X4_join
set_option maxRecDepth 20000 in
theorem ggX4_actSet_X4_change : GoodIn wsX4_actSet wsX4_change := goodIn_ca (goodIn_ca (goodIn_r _ [82, 20, 28, 83, 84, 85, 86, 29, 21, 1, 2, 3, 4, 5, 6, 7, 8, 9, 10, 11, 12, 13, 14, 87, 88, 89, 90, 91, 92, 30, 31, 32, 33, 34, 35, 36, 93, 94, 95, 96, 97, 98, 40, 99, 42, 43, 44, 45, 46, 47, 48, 49, 50, 51, 52, 53, 54, 55, 56, 57, 100, 101, 102, 103, 104, 105, 106, 61, 107, 75, 59, 60, 62, 63, 108, 68, 69, 70, 109, 110, 111, 112, 113, 114, 115, 116, 117, 118, 119, 120, 121, 122, 123, 124, 125, 126, 127, 128, 129, 130, 131, 132, 133, 134, 135, 136, 137, 138, 139, 140, 141, 142, 143, 144, 145, 146, 147, 148, 149, 150, 151, 152, 153, 154, 155, 156, 157, 158, 159, 160, 161, 162, 163, 164, 165, 166, 167, 168, 169, 170, 171, 172, 173, 174, 175, 176, 177, 178, 179, 180, 181, 182, 183, 71, 72, 73, 74, 76, 77, 78, 242, 243, 244, 245, 246, 247, 248, 249, 250, 251, 252, 253, 254, 255, 256] (by decide +kernel) (by decide +kernel)) (goodIn_sub (fun _ h => List.mem_cons_of_mem _ (List.mem_append_left _ (List.mem_append_right _ h))) (by decide +kernel))) (goodIn_sub (fun _ h => List.mem_cons_of_mem _ (List.mem_append_right _ h)) (by decide +kernel))
set_option maxRecDepth 20000 in
theorem gX4_actSet_X4_change : GoodIn wsX4_actSet (wsV RX4 158 RX4 yX4_change wsX4_change) := goodIn_app (goodIn_of _ (by decide +kernel)) ggX4_actSet_X4_change
set_option maxRecDepth 20000 in
theorem ggX4_actSet_X4_move : GoodIn wsX4_actSet wsX4_move := goodIn_ca (goodIn_ca (goodIn_r _ [187, 20, 21, 1, 2, 3, 4, 5, 6, 7, 8, 9, 10, 11, 12, 13, 14, 188, 189, 190, 28, 29, 83, 84, 85, 86, 191, 192, 193, 30, 31, 32, 33, 34, 35, 36, 194, 195, 196, 40, 197, 198, 42, 43, 44, 45, 46, 47, 48, 49, 50, 51, 52, 199, 200, 201, 56, 57, 202, 203, 204, 61, 205, 75, 59, 60, 62, 63, 108, 68, 69, 70, 58, 67, 71, 72, 73, 74, 76, 77, 78, 242, 243, 244, 245, 246, 247, 248, 249, 250, 251, 252, 253] (by decide +kernel) (by decide +kernel)) (goodIn_sub (fun _ h => List.mem_cons_of_mem _ (List.mem_append_left _ (List.mem_append_right _ h))) (by decide +kernel))) (goodIn_sub (fun _ h => List.mem_cons_of_mem _ (List.mem_append_right _ h)) (by decide +kernel))
set_option maxRecDepth 20000 in
theorem gX4_actSet_X4_move : GoodIn wsX4_actSet (wsV RX4 160 RX4 yX4_move wsX4_move) := goodIn_app (goodIn_of _ (by decide +kernel)) ggX4_actSet_X4_move
set_option maxRecDepth 20000 in
theorem ggX4_actSet_X4_stretch : GoodIn wsX4_actSet wsX4_stretch := goodIn_ca (goodIn_ca (goodIn_r _ [209, 28, 20, 29, 191, 192, 85, 193, 21, 1, 2, 3, 4, 5, 6, 7, 8, 9, 10, 11, 12, 13, 14, 30, 31, 32, 33, 34, 35, 36, 210, 211, 212, 40, 213, 56, 57, 198, 42, 43, 44, 45, 46, 47, 48, 49, 50, 51, 52, 202, 203, 204, 61, 205, 75, 59, 60, 62, 63, 108, 68, 69, 70, 169, 170, 171, 172, 173, 84, 86, 58, 214, 215, 216, 217, 167, 168, 67, 71, 72, 73, 74, 76, 77, 78, 242, 243, 244, 245, 246, 247, 248, 249, 250, 251, 252, 253] (by decide +kernel) (by decide +kernel)) (goodIn_sub (fun _ h => List.mem_cons_of_mem _ (List.mem_append_right _ h)) (by decide +kernel))) (goodIn_sub (fun _ h => List.mem_cons_of_mem _ (List.mem_append_left _ (List.mem_append_right _ h))) (by decide +kernel))
set_option maxRecDepth 20000 in
theorem gX4_actSet_X4_stretch : GoodIn wsX4_actSet (wsV RX4 162 RX4 yX4_stretch wsX4_stretch) := goodIn_app (goodIn_of _ (by decide +kernel)) ggX4_actSet_X4_stretch
set_option maxRecDepth 20000 in
theorem ggX4_actSet_X4_span : GoodIn wsX4_actSet wsX4_span := goodIn_ca (goodIn_ca (goodIn_r _ [221, 20, 21, 1, 2, 3, 4, 5, 6, 7, 8, 9, 10, 11, 12, 13, 14, 222, 223, 224, 225, 191, 192, 85, 193, 83, 84, 86, 29, 226, 227, 228, 19, 25, 26, 27, 28, 30, 31, 32, 33, 34, 35, 36, 229, 230, 231, 40, 232, 42, 43, 44, 45, 46, 47, 48, 49, 50, 51, 52, 233, 234, 235, 56, 57, 53, 54, 55, 236, 237, 238, 239, 240, 241, 169, 170, 171, 61, 172, 173, 75, 59, 60, 62, 63, 108, 68, 69, 70, 242, 243, 244, 245, 246, 247, 248, 249, 250, 251, 252, 253] (by decide +kernel) (by decide +kernel)) (goodIn_sub (fun _ h => List.mem_cons_of_mem _ (List.mem_append_left _ (List.mem_append_right _ h))) (by decide +kernel))) (goodIn_sub (fun _ h => List.mem_cons_of_mem _ (List.mem_append_right _ h)) (by decide +kernel))
set_option maxRecDepth 20000 in
theorem gX4_actSet_X4_span : GoodIn wsX4_actSet (wsV RX4 149 RX4 yX4_span wsX4_span) := goodIn_app (goodIn_of _ (by decide +kernel)) ggX4_actSet_X4_span
theorem dX4_actSet_0 : decode cX4_actSet 0 = .ok (.aload_n 0, 1) := by decide +kernel
theorem dX4_actSet_1 : decode cX4_actSet 1 = .ok (.bipush 8, 2) := by decide +kernel
theorem dX4_actSet_3 : decode cX4_actSet 3 = .ok (.invokevirtual 62, 3) := by decide +kernel
theorem dX4_actSet_6 : decode cX4_actSet 6 = .ok (.tableswitch 50 0 3 #[30, 35, 40, 45], 30) := by decide +kernel
theorem dX4_actSet_36 : decode cX4_actSet 36 = .ok (.aload_n 0, 1) := by decide +kernel
theorem dX4_actSet_37 : decode cX4_actSet 37 = .ok (.invokevirtual 156, 3) := by decide +kernel
theorem dX4_actSet_40 : decode cX4_actSet 40 = .ok (.ireturn, 1) := by decide +kernel
theorem dX4_actSet_41 : decode cX4_actSet 41 = .ok (.aload_n 0, 1) := by decide +kernel
theorem dX4_actSet_42 : decode cX4_actSet 42 = .ok (.invokevirtual 158, 3) := by decide +kernel
theorem dX4_actSet_45 : decode cX4_actSet 45 = .ok (.ireturn, 1) := by decide +kernel
theorem dX4_actSet_46 : decode cX4_actSet 46 = .ok (.aload_n 0, 1) := by decide +kernel
theorem dX4_actSet_47 : decode cX4_actSet 47 = .ok (.invokevirtual 160, 3) := by decide +kernel
theorem dX4_actSet_50 : decode cX4_actSet 50 = .ok (.ireturn, 1) := by decide +kernel
theorem dX4_actSet_51 : decode cX4_actSet 51 = .ok (.aload_n 0, 1) := by decide +kernel
theorem dX4_actSet_52 : decode cX4_actSet 52 = .ok (.invokevirtual 162, 3) := by decide +kernel
theorem dX4_actSet_55 : decode cX4_actSet 55 = .ok (.ireturn, 1) := by decide +kernel
theorem dX4_actSet_56 : decode cX4_actSet 56 = .ok (.aload_n 0, 1) := by decide +kernel
theorem dX4_actSet_57 : decode cX4_actSet 57 = .ok (.invokevirtual 149, 3) := by decide +kernel
theorem dX4_actSet_60 : decode cX4_actSet 60 = .ok (.ireturn, 1) := by decide +kernel
set_option maxRecDepth 20000 in
theorem ggX4_actFunction_X4_draw : GoodIn wsX4_actFunction wsX4_draw := goodIn_r _ [5, 6, 7, 8, 9, 10, 11, 12, 13, 14, 236, 237, 238, 239, 240] (by decide +kernel) (by decide +kernel)
set_option maxRecDepth 20000 in
theorem gX4_actFunction_X4_draw : GoodIn wsX4_actFunction (wsV RX4 62 RX4 yX4_draw wsX4_draw) := goodIn_app (goodIn_of _ (by decide +kernel)) ggX4_actFunction_X4_draw
set_option maxRecDepth 20000 in
theorem ggX4_actFunction_X4_raise : GoodIn wsX4_actFunction wsX4_raise := goodIn_ca (goodIn_ca (goodIn_r _ [18, 19, 20, 1, 2, 3, 4, 5, 6, 7, 8, 9, 10, 11, 12, 13, 14, 21, 22, 23, 24, 25, 26, 27, 28, 29, 30, 31, 32, 33, 34, 35, 36, 37, 38, 39, 40, 41, 42, 43, 44, 45, 46, 47, 48, 49, 50, 51, 52, 53, 54, 55, 56, 57, 58, 59, 60, 61, 62, 63, 64, 65, 66, 67, 68, 69, 70, 71, 72, 73, 74, 75, 76, 77, 78, 79, 80, 81, 236, 237, 238, 239, 240, 241, 242, 243, 244, 245, 246, 247] (by decide +kernel) (by decide +kernel)) (goodIn_sub (fun _ h => List.mem_cons_of_mem _ (List.mem_append_left _ (List.mem_append_right _ h))) (by decide +kernel))) (goodIn_sub (fun _ h => List.mem_cons_of_mem _ (List.mem_append_right _ h)) (by decide +kernel))
set_option maxRecDepth 20000 in
theorem gX4_actFunction_X4_raise : GoodIn wsX4_actFunction (wsV RX4 152 RX4 yX4_raise wsX4_raise) := goodIn_app (goodIn_of _ (by decide +kernel)) ggX4_actFunction_X4_raise
set_option maxRecDepth 20000 in
theorem ggX4_actFunction_X4_set : GoodIn wsX4_actFunction wsX4_set := goodIn_ca (goodIn_ca (goodIn_r _ [85, 86, 19, 20, 1, 2, 3, 4, 5, 6, 7, 8, 9, 10, 11, 12, 13, 14, 87, 88, 89, 90, 91, 92, 39, 93, 41, 42, 43, 44, 45, 46, 47, 48, 49, 94, 95, 96, 97, 98, 99, 100, 101, 102, 103, 104, 105, 106, 107, 108, 68, 69, 70, 65, 71, 67, 72, 26, 27, 28, 73, 30, 31, 74, 75, 76, 77, 78, 63, 64, 66, 79, 80, 81, 236, 237, 238, 239, 240, 241, 242, 243, 244, 245, 246, 248, 247] (by decide +kernel) (by decide +kernel)) (goodIn_sub (fun _ h => List.mem_cons_of_mem _ (List.mem_append_left _ (List.mem_append_right _ h))) (by decide +kernel))) (goodIn_sub (fun _ h => List.mem_cons_of_mem _ (List.mem_append_right _ h)) (by decide +kernel))
set_option maxRecDepth 20000 in
theorem gX4_actFunction_X4_set : GoodIn wsX4_actFunction (wsV RX4 164 RX4 yX4_set wsX4_set) := goodIn_app (goodIn_of _ (by decide +kernel)) ggX4_actFunction_X4_set
set_option maxRecDepth 20000 in
theorem ggX4_actFunction_X4_mix : GoodIn wsX4_actFunction wsX4_mix := goodIn_ca (goodIn_ca (goodIn_r _ [112, 32, 19, 20, 1, 2, 3, 4, 5, 6, 7, 8, 9, 10, 11, 12, 13, 14, 33, 34, 35, 113, 114, 115, 39, 116, 43, 44, 45, 46, 47, 48, 49, 53, 54, 55, 41, 42, 62, 63, 64, 65, 66, 67, 117, 118, 119, 120, 26, 27, 28, 121, 30, 31, 68, 69, 70, 71, 72, 73, 74, 75, 76, 77, 78, 79, 80, 81, 236, 237, 238, 239, 240, 241, 242, 243, 244, 245, 246, 247] (by decide +kernel) (by decide +kernel)) (goodIn_sub (fun _ h => List.mem_cons_of_mem _ (List.mem_append_right _ h)) (by decide +kernel))) (goodIn_sub (fun _ h => List.mem_cons_of_mem _ (List.mem_append_left _ (List.mem_append_right _ h))) (by decide +kernel))
set_option maxRecDepth 20000 in
theorem gX4_actFunction_X4_mix : GoodIn wsX4_actFunction (wsV RX4 166 RX4 yX4_mix wsX4_mix) := goodIn_app (goodIn_of _ (by decide +kernel)) ggX4_actFunction_X4_mix
set_option maxRecDepth 20000 in
theorem ggX4_actFunction_X4_turn : GoodIn wsX4_actFunction wsX4_turn := goodIn_ca (goodIn_ca (goodIn_r _ [125, 19, 32, 126, 127, 27, 128, 20, 1, 2, 3, 4, 5, 6, 7, 8, 9, 10, 11, 12, 13, 14, 33, 34, 35, 129, 130, 131, 39, 132, 41, 42, 43, 44, 45, 46, 47, 48, 49, 53, 54, 55, 133, 134, 135, 136, 137, 138, 139, 140, 65, 141, 78, 63, 64, 66, 67, 142, 69, 70, 71, 72, 26, 28, 73, 30, 31, 143, 144, 145, 146, 147, 148, 149, 150, 151, 152, 153, 154, 155, 156, 157, 158, 159, 160, 161, 162, 163, 164, 165, 166, 167, 168, 169, 170, 171, 172, 173, 174, 175, 176, 177, 178, 179, 180, 74, 75, 76, 77, 79, 80, 81, 236, 237, 238, 239, 240, 241, 242, 243, 244, 245, 246, 247] (by decide +kernel) (by decide +kernel)) (goodIn_sub (fun _ h => List.mem_cons_of_mem _ (List.mem_append_left _ (List.mem_append_right _ h))) (by decide +kernel))) (goodIn_sub (fun _ h => List.mem_cons_of_mem _ (List.mem_append_right _ h)) (by decide +kernel))
set_option maxRecDepth 20000 in
theorem gX4_actFunction_X4_turn : GoodIn wsX4_actFunction (wsV RX4 168 RX4 yX4_turn wsX4_turn) := goodIn_app (goodIn_of _ (by decide +kernel)) ggX4_actFunction_X4_turn
set_option maxRecDepth 20000 in
theorem ggX4_actFunction_X4_thick_ : GoodIn wsX4_actFunction wsX4_thick_ := goodIn_ca (goodIn_ca (goodIn_r _ [184, 19, 20, 1, 2, 3, 4, 5, 6, 7, 8, 9, 10, 11, 12, 13, 14, 185, 186, 187, 188, 86, 87, 88, 89, 189, 190, 191, 39, 192, 43, 44, 45, 46, 47, 48, 49, 193, 194, 195, 41, 42, 196, 197, 198, 199, 200, 201, 202, 203, 98, 99, 100, 101, 102, 103, 104, 105, 106, 107, 108, 68, 69, 70, 65, 71, 67, 72, 26, 27, 28, 73, 30, 31, 74, 75, 76, 77, 78, 63, 64, 66, 79, 80, 81, 236, 237, 238, 239, 240, 241, 242, 243, 244, 245, 246, 248, 247] (by decide +kernel) (by decide +kernel)) (goodIn_sub (fun _ h => List.mem_cons_of_mem _ (List.mem_append_right _ h)) (by decide +kernel))) (goodIn_sub (fun _ h => List.mem_cons_of_mem _ (List.mem_append_left _ (List.mem_append_right _ h))) (by decide +kernel))
set_option maxRecDepth 20000 in
theorem gX4_actFunction_X4_thick_ : GoodIn wsX4_actFunction (wsV RX4 154 RX4 yX4_thick_ wsX4_thick_) := goodIn_app (goodIn_of _ (by decide +kernel)) ggX4_actFunction_X4_thick_
set_option maxRecDepth 20000 in
theorem ggX4_actFunction_X4_where : GoodIn wsX4_actFunction wsX4_where := goodIn_ca (goodIn_r _ [207, 208, 19, 86, 20, 1, 2, 3, 4, 5, 6, 7, 8, 9, 10, 11, 12, 13, 14, 209, 210, 211, 212, 32, 213, 214, 215, 216, 217, 218, 219, 220, 221, 222, 39, 223, 94, 95, 96, 97, 47, 48, 98, 99, 100, 101, 102, 43, 44, 45, 46, 49, 62, 63, 64, 65, 66, 67, 224, 225, 226, 106, 227, 108, 228, 229, 230, 231, 232, 104, 105, 107, 233, 234, 235, 236, 237, 238, 239, 240, 241, 242, 243, 244, 245, 246, 247, 248] (by decide +kernel) (by decide +kernel)) (goodIn_sub (fun _ h => List.mem_cons_of_mem _ (List.mem_append_right _ h)) (by decide +kernel))
set_option maxRecDepth 20000 in
theorem gX4_actFunction_X4_where : GoodIn wsX4_actFunction (wsV RX4 170 RX4 yX4_where wsX4_where) := goodIn_app (goodIn_of _ (by decide +kernel)) ggX4_actFunction_X4_where
theorem dX4_actFunction_0 : decode cX4_actFunction 0 = .ok (.aload_n 0, 1) := by decide +kernel
theorem dX4_actFunction_1 : decode cX4_actFunction 1 = .ok (.bipush 8, 2) := by decide +kernel
theorem dX4_actFunction_3 : decode cX4_actFunction 3 = .ok (.invokevirtual 62, 3) := by decide +kernel
theorem dX4_actFunction_6 : decode cX4_actFunction 6 = .ok (.tableswitch 67 0 6 #[42, 42, 47, 52, 57, 57, 62], 42) := by decide +kernel
theorem dX4_actFunction_48 : decode cX4_actFunction 48 = .ok (.aload_n 0, 1) := by decide +kernel
theorem dX4_actFunction_49 : decode cX4_actFunction 49 = .ok (.invokevirtual 152, 3) := by decide +kernel
theorem dX4_actFunction_52 : decode cX4_actFunction 52 = .ok (.ireturn, 1) := by decide +kernel
theorem dX4_actFunction_53 : decode cX4_actFunction 53 = .ok (.aload_n 0, 1) := by decide +kernel
theorem dX4_actFunction_54 : decode cX4_actFunction 54 = .ok (.invokevirtual 164, 3) := by decide +kernel
theorem dX4_actFunction_57 : decode cX4_actFunction 57 = .ok (.ireturn, 1) := by decide +kernel
theorem dX4_actFunction_58 : decode cX4_actFunction 58 = .ok (.aload_n 0, 1) := by decide +kernel
theorem dX4_actFunction_59 : decode cX4_actFunction 59 = .ok (.invokevirtual 166, 3) := by decide +kernel
theorem dX4_actFunction_62 : decode cX4_actFunction 62 = .ok (.ireturn, 1) := by decide +kernel
theorem dX4_actFunction_63 : decode cX4_actFunction 63 = .ok (.aload_n 0, 1) := by decide +kernel
theorem dX4_actFunction_64 : decode cX4_actFunction 64 = .ok (.invokevirtual 168, 3) := by decide +kernel
theorem dX4_actFunction_67 : decode cX4_actFunction 67 = .ok (.ireturn, 1) := by decide +kernel
theorem dX4_actFunction_68 : decode cX4_actFunction 68 = .ok (.aload_n 0, 1) := by decide +kernel
theorem dX4_actFunction_69 : decode cX4_actFunction 69 = .ok (.invokevirtual 154, 3) := by decide +kernel
theorem dX4_actFunction_72 : decode cX4_actFunction 72 = .ok (.ireturn, 1) := by decide +kernel
theorem dX4_actFunction_73 : decode cX4_actFunction 73 = .ok (.aload_n 0, 1) := by decide +kernel
theorem dX4_actFunction_74 : decode cX4_actFunction 74 = .ok (.invokevirtual 170, 3) := by decide +kernel
theorem dX4_actFunction_77 : decode cX4_actFunction 77 = .ok (.ireturn, 1) := by decide +kernel
theorem dJ9_abs_0f7a4_0 : decode cJ9_abs_0f7a4 0 = .ok (.iload_n 0, 1) := by decide +kernel
theorem dJ9_abs_0f7a4_1 : decode cJ9_abs_0f7a4 1 = .ok (.ifCond .ge 8, 3) := by decide +kernel
theorem dJ9_abs_0f7a4_4 : decode cJ9_abs_0f7a4 4 = .ok (.iload_n 0, 1) := by decide +kernel
theorem dJ9_abs_0f7a4_5 : decode cJ9_abs_0f7a4 5 = .ok (.ineg, 1) := by decide +kernel
theorem dJ9_abs_0f7a4_6 : decode cJ9_abs_0f7a4 6 = .ok (.goto 4, 3) := by decide +kernel
theorem dJ9_abs_0f7a4_9 : decode cJ9_abs_0f7a4 9 = .ok (.iload_n 0, 1) := by decide +kernel
theorem dJ9_abs_0f7a4_10 : decode cJ9_abs_0f7a4 10 = .ok (.ireturn, 1) := by decide +kernel
theorem dJ9_max_7cf53_0 : decode cJ9_max_7cf53 0 = .ok (.iload_n 0, 1) := by decide +kernel
theorem dJ9_max_7cf53_1 : decode cJ9_max_7cf53 1 = .ok (.iload_n 1, 1) := by decide +kernel
theorem dJ9_max_7cf53_2 : decode cJ9_max_7cf53 2 = .ok (.if_icmp .lt 7, 3) := by decide +kernel
theorem dJ9_max_7cf53_5 : decode cJ9_max_7cf53 5 = .ok (.iload_n 0, 1) := by decide +kernel
theorem dJ9_max_7cf53_6 : decode cJ9_max_7cf53 6 = .ok (.goto 4, 3) := by decide +kernel
theorem dJ9_max_7cf53_9 : decode cJ9_max_7cf53 9 = .ok (.iload_n 1, 1) := by decide +kernel
theorem dJ9_max_7cf53_10 : decode cJ9_max_7cf53 10 = .ok (.ireturn, 1) := by decide +kernel
theorem dJ9_min_7cf53_0 : decode cJ9_min_7cf53 0 = .ok (.iload_n 0, 1) := by decide +kernel
theorem dJ9_min_7cf53_1 : decode cJ9_min_7cf53 1 = .ok (.iload_n 1, 1) := by decide +kernel
theorem dJ9_min_7cf53_2 : decode cJ9_min_7cf53 2 = .ok (.if_icmp .gt 7, 3) := by decide +kernel
theorem dJ9_min_7cf53_5 : decode cJ9_min_7cf53 5 = .ok (.iload_n 0, 1) := by decide +kernel
theorem dJ9_min_7cf53_6 : decode cJ9_min_7cf53 6 = .ok (.goto 4, 3) := by decide +kernel
theorem dJ9_min_7cf53_9 : decode cJ9_min_7cf53 9 = .ok (.iload_n 1, 1) := by decide +kernel
theorem dJ9_min_7cf53_10 : decode cJ9_min_7cf53 10 = .ok (.ireturn, 1) := by decide +kernel
