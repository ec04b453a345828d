theorem dX4_init_0 : decode cX4_init 0 = .ok (.aload_n 0, 1) := by decide +kernel
theorem dX4_init_1 : decode cX4_init 1 = .ok (.invokespecial 1, 3) := by decide +kernel
theorem dX4_init_4 : decode cX4_init 4 = .ok (.aload_n 0, 1) := by decide +kernel
theorem dX4_init_5 : decode cX4_init 5 = .ok (.new 7, 3) := by decide +kernel
theorem dX4_init_8 : decode cX4_init 8 = .ok (.dup, 1) := by decide +kernel
theorem dX4_init_9 : decode cX4_init 9 = .ok (.invokespecial 9, 3) := by decide +kernel
theorem dX4_init_12 : decode cX4_init 12 = .ok (.putfield 10, 3) := by decide +kernel
theorem dX4_init_15 : decode cX4_init 15 = .ok (.aload_n 0, 1) := by decide +kernel
theorem dX4_init_16 : decode cX4_init 16 = .ok (.bipush 8, 2) := by decide +kernel
theorem dX4_init_18 : decode cX4_init 18 = .ok (.iconst 0, 1) := by decide +kernel
theorem dX4_init_19 : decode cX4_init 19 = .ok (.multianewarray 16 2, 4) := by decide +kernel
theorem dX4_init_23 : decode cX4_init 23 = .ok (.putfield 18, 3) := by decide +kernel
theorem dX4_init_26 : decode cX4_init 26 = .ok (.aload_n 0, 1) := by decide +kernel
theorem dX4_init_27 : decode cX4_init 27 = .ok (.iconst 5, 1) := by decide +kernel
theorem dX4_init_28 : decode cX4_init 28 = .ok (.sipush 201, 3) := by decide +kernel
theorem dX4_init_31 : decode cX4_init 31 = .ok (.multianewarray 21 2, 4) := by decide +kernel
theorem dX4_init_35 : decode cX4_init 35 = .ok (.putfield 23, 3) := by decide +kernel
theorem dX4_init_38 : decode cX4_init 38 = .ok (.aload_n 0, 1) := by decide +kernel
theorem dX4_init_39 : decode cX4_init 39 = .ok (.aload_n 1, 1) := by decide +kernel
theorem dX4_init_40 : decode cX4_init 40 = .ok (.putfield 26, 3) := by decide +kernel
theorem dX4_init_43 : decode cX4_init 43 = .ok (.aload_n 0, 1) := by decide +kernel
theorem dX4_init_44 : decode cX4_init 44 = .ok (.iload_n 2, 1) := by decide +kernel
theorem dX4_init_45 : decode cX4_init 45 = .ok (.putfield 30, 3) := by decide +kernel
theorem dX4_init_48 : decode cX4_init 48 = .ok (.return_, 1) := by decide +kernel
set_option maxRecDepth 20000 in
theorem ggX4_draw_L_cell : GoodIn wsX4_draw wsL_cell := goodIn_r _ [5, 6] (by decide +kernel) (by decide +kernel)
set_option maxRecDepth 20000 in
theorem gX4_draw_L_cell_n34 : GoodIn wsX4_draw (wsL_cell) := ggX4_draw_L_cell
set_option maxRecDepth 20000 in
theorem ggX4_draw_L_below : GoodIn wsX4_draw wsL_below := goodIn_r _ [8, 9] (by decide +kernel) (by decide +kernel)
set_option maxRecDepth 20000 in
theorem gX4_draw_L_below_n40 : GoodIn wsX4_draw (wsL_below) := ggX4_draw_L_below
theorem dX4_draw_0 : decode cX4_draw 0 = .ok (.aload_n 0, 1) := by decide +kernel
theorem dX4_draw_1 : decode cX4_draw 1 = .ok (.getfield 26, 3) := by decide +kernel
theorem dX4_draw_4 : decode cX4_draw 4 = .ok (.aload_n 0, 1) := by decide +kernel
theorem dX4_draw_5 : decode cX4_draw 5 = .ok (.getfield 30, 3) := by decide +kernel
theorem dX4_draw_8 : decode cX4_draw 8 = .ok (.bipush 24, 2) := by decide +kernel
theorem dX4_draw_10 : decode cX4_draw 10 = .ok (.irem, 1) := by decide +kernel
theorem dX4_draw_11 : decode cX4_draw 11 = .ok (.invokestatic 34, 3) := by decide +kernel
theorem dX4_draw_14 : decode cX4_draw 14 = .ok (.aload_n 0, 1) := by decide +kernel
theorem dX4_draw_15 : decode cX4_draw 15 = .ok (.getfield 30, 3) := by decide +kernel
theorem dX4_draw_18 : decode cX4_draw 18 = .ok (.bipush 24, 2) := by decide +kernel
theorem dX4_draw_20 : decode cX4_draw 20 = .ok (.idiv, 1) := by decide +kernel
theorem dX4_draw_21 : decode cX4_draw 21 = .ok (.bipush 8, 2) := by decide +kernel
theorem dX4_draw_23 : decode cX4_draw 23 = .ok (.irem, 1) := by decide +kernel
theorem dX4_draw_24 : decode cX4_draw 24 = .ok (.ishr, 1) := by decide +kernel
theorem dX4_draw_25 : decode cX4_draw 25 = .ok (.sipush 157, 3) := by decide +kernel
theorem dX4_draw_28 : decode cX4_draw 28 = .ok (.aload_n 0, 1) := by decide +kernel
theorem dX4_draw_29 : decode cX4_draw 29 = .ok (.getfield 30, 3) := by decide +kernel
theorem dX4_draw_32 : decode cX4_draw 32 = .ok (.imul, 1) := by decide +kernel
theorem dX4_draw_33 : decode cX4_draw 33 = .ok (.iadd, 1) := by decide +kernel
theorem dX4_draw_34 : decode cX4_draw 34 = .ok (.iload_n 1, 1) := by decide +kernel
theorem dX4_draw_35 : decode cX4_draw 35 = .ok (.invokestatic 40, 3) := by decide +kernel
theorem dX4_draw_38 : decode cX4_draw 38 = .ok (.istore_n 2, 1) := by decide +kernel
theorem dX4_draw_39 : decode cX4_draw 39 = .ok (.aload_n 0, 1) := by decide +kernel
theorem dX4_draw_40 : decode cX4_draw 40 = .ok (.dup, 1) := by decide +kernel
theorem dX4_draw_41 : decode cX4_draw 41 = .ok (.getfield 30, 3) := by decide +kernel
theorem dX4_draw_44 : decode cX4_draw 44 = .ok (.iconst 1, 1) := by decide +kernel
theorem dX4_draw_45 : decode cX4_draw 45 = .ok (.iadd, 1) := by decide +kernel
theorem dX4_draw_46 : decode cX4_draw 46 = .ok (.putfield 30, 3) := by decide +kernel
theorem dX4_draw_49 : decode cX4_draw 49 = .ok (.iload_n 2, 1) := by decide +kernel
theorem dX4_draw_50 : decode cX4_draw 50 = .ok (.ireturn, 1) := by decide +kernel
theorem dX4_with_0 : decode cX4_with 0 = .ok (.aload_n 0, 1) := by decide +kernel
theorem dX4_with_1 : decode cX4_with 1 = .ok (.arraylength, 1) := by decide +kernel
theorem dX4_with_2 : decode cX4_with 2 = .ok (.iconst 1, 1) := by decide +kernel
theorem dX4_with_3 : decode cX4_with 3 = .ok (.iadd, 1) := by decide +kernel
theorem dX4_with_4 : decode cX4_with 4 = .ok (.anewarray 44, 3) := by decide +kernel
theorem dX4_with_7 : decode cX4_with 7 = .ok (.astore_n 2, 1) := by decide +kernel
theorem dX4_with_8 : decode cX4_with 8 = .ok (.aload_n 0, 1) := by decide +kernel
theorem dX4_with_9 : decode cX4_with 9 = .ok (.iconst 0, 1) := by decide +kernel
theorem dX4_with_10 : decode cX4_with 10 = .ok (.aload_n 2, 1) := by decide +kernel
theorem dX4_with_11 : decode cX4_with 11 = .ok (.iconst 0, 1) := by decide +kernel
theorem dX4_with_12 : decode cX4_with 12 = .ok (.aload_n 0, 1) := by decide +kernel
theorem dX4_with_13 : decode cX4_with 13 = .ok (.arraylength, 1) := by decide +kernel
theorem dX4_with_14 : decode cX4_with 14 = .ok (.invokestatic 45, 3) := by decide +kernel
theorem dX4_with_17 : decode cX4_with 17 = .ok (.aload_n 2, 1) := by decide +kernel
theorem dX4_with_18 : decode cX4_with 18 = .ok (.aload_n 0, 1) := by decide +kernel
theorem dX4_with_19 : decode cX4_with 19 = .ok (.arraylength, 1) := by decide +kernel
theorem dX4_with_20 : decode cX4_with 20 = .ok (.aload_n 1, 1) := by decide +kernel
theorem dX4_with_21 : decode cX4_with 21 = .ok (.aastore, 1) := by decide +kernel
theorem dX4_with_22 : decode cX4_with 22 = .ok (.aload_n 2, 1) := by decide +kernel
theorem dX4_with_23 : decode cX4_with 23 = .ok (.areturn, 1) := by decide +kernel
theorem dX4_isIn_0 : decode cX4_isIn 0 = .ok (.aload_n 0, 1) := by decide +kernel
theorem dX4_isIn_1 : decode cX4_isIn 1 = .ok (.astore_n 2, 1) := by decide +kernel
theorem dX4_isIn_2 : decode cX4_isIn 2 = .ok (.aload_n 2, 1) := by decide +kernel
theorem dX4_isIn_3 : decode cX4_isIn 3 = .ok (.arraylength, 1) := by decide +kernel
theorem dX4_isIn_4 : decode cX4_isIn 4 = .ok (.istore_n 3, 1) := by decide +kernel
theorem dX4_isIn_5 : decode cX4_isIn 5 = .ok (.iconst 0, 1) := by decide +kernel
theorem dX4_isIn_6 : decode cX4_isIn 6 = .ok (.istore 4, 2) := by decide +kernel
theorem dX4_isIn_8 : decode cX4_isIn 8 = .ok (.iload 4, 2) := by decide +kernel
theorem dX4_isIn_10 : decode cX4_isIn 10 = .ok (.iload_n 3, 1) := by decide +kernel
theorem dX4_isIn_11 : decode cX4_isIn 11 = .ok (.if_icmp .ge 33, 3) := by decide +kernel
theorem dX4_isIn_14 : decode cX4_isIn 14 = .ok (.aload_n 2, 1) := by decide +kernel
theorem dX4_isIn_15 : decode cX4_isIn 15 = .ok (.iload 4, 2) := by decide +kernel
theorem dX4_isIn_17 : decode cX4_isIn 17 = .ok (.aaload, 1) := by decide +kernel
theorem dX4_isIn_18 : decode cX4_isIn 18 = .ok (.astore 5, 2) := by decide +kernel
theorem dX4_isIn_20 : decode cX4_isIn 20 = .ok (.iload_n 1, 1) := by decide +kernel
theorem dX4_isIn_21 : decode cX4_isIn 21 = .ok (.aload 5, 2) := by decide +kernel
theorem dX4_isIn_23 : decode cX4_isIn 23 = .ok (.iconst 0, 1) := by decide +kernel
theorem dX4_isIn_24 : decode cX4_isIn 24 = .ok (.iaload, 1) := by decide +kernel
theorem dX4_isIn_25 : decode cX4_isIn 25 = .ok (.if_icmp .lt 13, 3) := by decide +kernel
theorem dX4_isIn_28 : decode cX4_isIn 28 = .ok (.iload_n 1, 1) := by decide +kernel
theorem dX4_isIn_29 : decode cX4_isIn 29 = .ok (.aload 5, 2) := by decide +kernel
theorem dX4_isIn_31 : decode cX4_isIn 31 = .ok (.iconst 1, 1) := by decide +kernel
theorem dX4_isIn_32 : decode cX4_isIn 32 = .ok (.iaload, 1) := by decide +kernel
theorem dX4_isIn_33 : decode cX4_isIn 33 = .ok (.if_icmp .gt 5, 3) := by decide +kernel
theorem dX4_isIn_36 : decode cX4_isIn 36 = .ok (.iconst 1, 1) := by decide +kernel
theorem dX4_isIn_37 : decode cX4_isIn 37 = .ok (.ireturn, 1) := by decide +kernel
theorem dX4_isIn_38 : decode cX4_isIn 38 = .ok (.iinc 4 1, 3) := by decide +kernel
theorem dX4_isIn_41 : decode cX4_isIn 41 = .ok (.goto (-33), 3) := by decide +kernel
theorem dX4_isIn_44 : decode cX4_isIn 44 = .ok (.iconst 0, 1) := by decide +kernel
theorem dX4_isIn_45 : decode cX4_isIn 45 = .ok (.ireturn, 1) := by decide +kernel
set_option maxRecDepth 20000 in
theorem ggX4_spans_X4_with : GoodIn wsX4_spans wsX4_with := goodIn_r _ [6, 1, 7, 8, 9, 10] (by decide +kernel) (by decide +kernel)
set_option maxRecDepth 20000 in
theorem gX4_spans_X4_with : GoodIn wsX4_spans (va_wsS RX4 51 yX4_with wsX4_with) := goodIn_app (goodIn_of _ (by decide +kernel)) ggX4_spans_X4_with
theorem dX4_spans_0 : decode cX4_spans 0 = .ok (.iconst 0, 1) := by decide +kernel
theorem dX4_spans_1 : decode cX4_spans 1 = .ok (.anewarray 44, 3) := by decide +kernel
theorem dX4_spans_4 : decode cX4_spans 4 = .ok (.astore_n 1, 1) := by decide +kernel
theorem dX4_spans_5 : decode cX4_spans 5 = .ok (.iconst 0, 1) := by decide +kernel
theorem dX4_spans_6 : decode cX4_spans 6 = .ok (.istore_n 2, 1) := by decide +kernel
theorem dX4_spans_7 : decode cX4_spans 7 = .ok (.iload_n 2, 1) := by decide +kernel
theorem dX4_spans_8 : decode cX4_spans 8 = .ok (.sipush 200, 3) := by decide +kernel
theorem dX4_spans_11 : decode cX4_spans 11 = .ok (.if_icmp .gt 60, 3) := by decide +kernel
theorem dX4_spans_14 : decode cX4_spans 14 = .ok (.aload_n 0, 1) := by decide +kernel
theorem dX4_spans_15 : decode cX4_spans 15 = .ok (.iload_n 2, 1) := by decide +kernel
theorem dX4_spans_16 : decode cX4_spans 16 = .ok (.baload, 1) := by decide +kernel
theorem dX4_spans_17 : decode cX4_spans 17 = .ok (.ifCond .ne 6, 3) := by decide +kernel
theorem dX4_spans_20 : decode cX4_spans 20 = .ok (.goto 45, 3) := by decide +kernel
theorem dX4_spans_23 : decode cX4_spans 23 = .ok (.iload_n 2, 1) := by decide +kernel
theorem dX4_spans_24 : decode cX4_spans 24 = .ok (.ifCond .le 23, 3) := by decide +kernel
theorem dX4_spans_27 : decode cX4_spans 27 = .ok (.aload_n 0, 1) := by decide +kernel
theorem dX4_spans_28 : decode cX4_spans 28 = .ok (.iload_n 2, 1) := by decide +kernel
theorem dX4_spans_29 : decode cX4_spans 29 = .ok (.iconst 1, 1) := by decide +kernel
theorem dX4_spans_30 : decode cX4_spans 30 = .ok (.isub, 1) := by decide +kernel
theorem dX4_spans_31 : decode cX4_spans 31 = .ok (.baload, 1) := by decide +kernel
theorem dX4_spans_32 : decode cX4_spans 32 = .ok (.ifCond .eq 15, 3) := by decide +kernel
theorem dX4_spans_35 : decode cX4_spans 35 = .ok (.aload_n 1, 1) := by decide +kernel
theorem dX4_spans_36 : decode cX4_spans 36 = .ok (.aload_n 1, 1) := by decide +kernel
theorem dX4_spans_37 : decode cX4_spans 37 = .ok (.arraylength, 1) := by decide +kernel
theorem dX4_spans_38 : decode cX4_spans 38 = .ok (.iconst 1, 1) := by decide +kernel
theorem dX4_spans_39 : decode cX4_spans 39 = .ok (.isub, 1) := by decide +kernel
theorem dX4_spans_40 : decode cX4_spans 40 = .ok (.aaload, 1) := by decide +kernel
theorem dX4_spans_41 : decode cX4_spans 41 = .ok (.iconst 1, 1) := by decide +kernel
theorem dX4_spans_42 : decode cX4_spans 42 = .ok (.iload_n 2, 1) := by decide +kernel
theorem dX4_spans_43 : decode cX4_spans 43 = .ok (.iastore, 1) := by decide +kernel
theorem dX4_spans_44 : decode cX4_spans 44 = .ok (.goto 21, 3) := by decide +kernel
theorem dX4_spans_47 : decode cX4_spans 47 = .ok (.iconst 2, 1) := by decide +kernel
theorem dX4_spans_48 : decode cX4_spans 48 = .ok (.newarray .int, 2) := by decide +kernel
theorem dX4_spans_50 : decode cX4_spans 50 = .ok (.dup, 1) := by decide +kernel
theorem dX4_spans_51 : decode cX4_spans 51 = .ok (.iconst 0, 1) := by decide +kernel
theorem dX4_spans_52 : decode cX4_spans 52 = .ok (.iload_n 2, 1) := by decide +kernel
theorem dX4_spans_53 : decode cX4_spans 53 = .ok (.iastore, 1) := by decide +kernel
theorem dX4_spans_54 : decode cX4_spans 54 = .ok (.dup, 1) := by decide +kernel
theorem dX4_spans_55 : decode cX4_spans 55 = .ok (.iconst 1, 1) := by decide +kernel
theorem dX4_spans_56 : decode cX4_spans 56 = .ok (.iload_n 2, 1) := by decide +kernel
theorem dX4_spans_57 : decode cX4_spans 57 = .ok (.iastore, 1) := by decide +kernel
theorem dX4_spans_58 : decode cX4_spans 58 = .ok (.astore_n 3, 1) := by decide +kernel
theorem dX4_spans_59 : decode cX4_spans 59 = .ok (.aload_n 1, 1) := by decide +kernel
theorem dX4_spans_60 : decode cX4_spans 60 = .ok (.aload_n 3, 1) := by decide +kernel
theorem dX4_spans_61 : decode cX4_spans 61 = .ok (.invokestatic 51, 3) := by decide +kernel
theorem dX4_spans_64 : decode cX4_spans 64 = .ok (.astore_n 1, 1) := by decide +kernel
theorem dX4_spans_65 : decode cX4_spans 65 = .ok (.iinc 2 1, 3) := by decide +kernel
theorem dX4_spans_68 : decode cX4_spans 68 = .ok (.goto (-61), 3) := by decide +kernel
theorem dX4_spans_71 : decode cX4_spans 71 = .ok (.aload_n 1, 1) := by decide +kernel
theorem dX4_spans_72 : decode cX4_spans 72 = .ok (.areturn, 1) := by decide +kernel
theorem dX4_row_0 : decode cX4_row 0 = .ok (.sipush 201, 3) := by decide +kernel
theorem dX4_row_3 : decode cX4_row 3 = .ok (.newarray .boolean, 2) := by decide +kernel
theorem dX4_row_5 : decode cX4_row 5 = .ok (.astore_n 1, 1) := by decide +kernel
theorem dX4_row_6 : decode cX4_row 6 = .ok (.aload_n 0, 1) := by decide +kernel
theorem dX4_row_7 : decode cX4_row 7 = .ok (.astore_n 2, 1) := by decide +kernel
theorem dX4_row_8 : decode cX4_row 8 = .ok (.aload_n 2, 1) := by decide +kernel
theorem dX4_row_9 : decode cX4_row 9 = .ok (.arraylength, 1) := by decide +kernel
theorem dX4_row_10 : decode cX4_row 10 = .ok (.istore_n 3, 1) := by decide +kernel
theorem dX4_row_11 : decode cX4_row 11 = .ok (.iconst 0, 1) := by decide +kernel
theorem dX4_row_12 : decode cX4_row 12 = .ok (.istore 4, 2) := by decide +kernel
theorem dX4_row_14 : decode cX4_row 14 = .ok (.iload 4, 2) := by decide +kernel
theorem dX4_row_16 : decode cX4_row 16 = .ok (.iload_n 3, 1) := by decide +kernel
theorem dX4_row_17 : decode cX4_row 17 = .ok (.if_icmp .ge 41, 3) := by decide +kernel
theorem dX4_row_20 : decode cX4_row 20 = .ok (.aload_n 2, 1) := by decide +kernel
theorem dX4_row_21 : decode cX4_row 21 = .ok (.iload 4, 2) := by decide +kernel
theorem dX4_row_23 : decode cX4_row 23 = .ok (.aaload, 1) := by decide +kernel
theorem dX4_row_24 : decode cX4_row 24 = .ok (.astore 5, 2) := by decide +kernel
theorem dX4_row_26 : decode cX4_row 26 = .ok (.aload 5, 2) := by decide +kernel
theorem dX4_row_28 : decode cX4_row 28 = .ok (.iconst 0, 1) := by decide +kernel
theorem dX4_row_29 : decode cX4_row 29 = .ok (.iaload, 1) := by decide +kernel
theorem dX4_row_30 : decode cX4_row 30 = .ok (.istore 6, 2) := by decide +kernel
theorem dX4_row_32 : decode cX4_row 32 = .ok (.iload 6, 2) := by decide +kernel
theorem dX4_row_34 : decode cX4_row 34 = .ok (.aload 5, 2) := by decide +kernel
theorem dX4_row_36 : decode cX4_row 36 = .ok (.iconst 1, 1) := by decide +kernel
theorem dX4_row_37 : decode cX4_row 37 = .ok (.iaload, 1) := by decide +kernel
theorem dX4_row_38 : decode cX4_row 38 = .ok (.if_icmp .gt 14, 3) := by decide +kernel
theorem dX4_row_41 : decode cX4_row 41 = .ok (.aload_n 1, 1) := by decide +kernel
theorem dX4_row_42 : decode cX4_row 42 = .ok (.iload 6, 2) := by decide +kernel
theorem dX4_row_44 : decode cX4_row 44 = .ok (.iconst 1, 1) := by decide +kernel
theorem dX4_row_45 : decode cX4_row 45 = .ok (.bastore, 1) := by decide +kernel
theorem dX4_row_46 : decode cX4_row 46 = .ok (.iinc 6 1, 3) := by decide +kernel
theorem dX4_row_49 : decode cX4_row 49 = .ok (.goto (-17), 3) := by decide +kernel
theorem dX4_row_52 : decode cX4_row 52 = .ok (.iinc 4 1, 3) := by decide +kernel
theorem dX4_row_55 : decode cX4_row 55 = .ok (.goto (-41), 3) := by decide +kernel
theorem dX4_row_58 : decode cX4_row 58 = .ok (.aload_n 1, 1) := by decide +kernel
theorem dX4_row_59 : decode cX4_row 59 = .ok (.areturn, 1) := by decide +kernel
theorem dX4_count_0 : decode cX4_count 0 = .ok (.iconst 0, 1) := by decide +kernel
theorem dX4_count_1 : decode cX4_count 1 = .ok (.istore_n 1, 1) := by decide +kernel
theorem dX4_count_2 : decode cX4_count 2 = .ok (.aload_n 0, 1) := by decide +kernel
theorem dX4_count_3 : decode cX4_count 3 = .ok (.astore_n 2, 1) := by decide +kernel
theorem dX4_count_4 : decode cX4_count 4 = .ok (.aload_n 2, 1) := by decide +kernel
theorem dX4_count_5 : decode cX4_count 5 = .ok (.arraylength, 1) := by decide +kernel
theorem dX4_count_6 : decode cX4_count 6 = .ok (.istore_n 3, 1) := by decide +kernel
theorem dX4_count_7 : decode cX4_count 7 = .ok (.iconst 0, 1) := by decide +kernel
theorem dX4_count_8 : decode cX4_count 8 = .ok (.istore 4, 2) := by decide +kernel
theorem dX4_count_10 : decode cX4_count 10 = .ok (.iload 4, 2) := by decide +kernel
theorem dX4_count_12 : decode cX4_count 12 = .ok (.iload_n 3, 1) := by decide +kernel
theorem dX4_count_13 : decode cX4_count 13 = .ok (.if_icmp .ge 29, 3) := by decide +kernel
theorem dX4_count_16 : decode cX4_count 16 = .ok (.aload_n 2, 1) := by decide +kernel
theorem dX4_count_17 : decode cX4_count 17 = .ok (.iload 4, 2) := by decide +kernel
theorem dX4_count_19 : decode cX4_count 19 = .ok (.aaload, 1) := by decide +kernel
theorem dX4_count_20 : decode cX4_count 20 = .ok (.astore 5, 2) := by decide +kernel
theorem dX4_count_22 : decode cX4_count 22 = .ok (.iload_n 1, 1) := by decide +kernel
theorem dX4_count_23 : decode cX4_count 23 = .ok (.aload 5, 2) := by decide +kernel
theorem dX4_count_25 : decode cX4_count 25 = .ok (.iconst 1, 1) := by decide +kernel
theorem dX4_count_26 : decode cX4_count 26 = .ok (.iaload, 1) := by decide +kernel
theorem dX4_count_27 : decode cX4_count 27 = .ok (.aload 5, 2) := by decide +kernel
theorem dX4_count_29 : decode cX4_count 29 = .ok (.iconst 0, 1) := by decide +kernel
theorem dX4_count_30 : decode cX4_count 30 = .ok (.iaload, 1) := by decide +kernel
theorem dX4_count_31 : decode cX4_count 31 = .ok (.isub, 1) := by decide +kernel
theorem dX4_count_32 : decode cX4_count 32 = .ok (.iconst 1, 1) := by decide +kernel
theorem dX4_count_33 : decode cX4_count 33 = .ok (.iadd, 1) := by decide +kernel
theorem dX4_count_34 : decode cX4_count 34 = .ok (.iadd, 1) := by decide +kernel
theorem dX4_count_35 : decode cX4_count 35 = .ok (.istore_n 1, 1) := by decide +kernel
theorem dX4_count_36 : decode cX4_count 36 = .ok (.iinc 4 1, 3) := by decide +kernel
theorem dX4_count_39 : decode cX4_count 39 = .ok (.goto (-29), 3) := by decide +kernel
theorem dX4_count_42 : decode cX4_count 42 = .ok (.iload_n 1, 1) := by decide +kernel
theorem dX4_count_43 : decode cX4_count 43 = .ok (.ireturn, 1) := by decide +kernel
theorem dX4_begin_0 : decode cX4_begin 0 = .ok (.aload_n 0, 1) := by decide +kernel
theorem dX4_begin_1 : decode cX4_begin 1 = .ok (.iconst 0, 1) := by decide +kernel
theorem dX4_begin_2 : decode cX4_begin 2 = .ok (.iaload, 1) := by decide +kernel
theorem dX4_begin_3 : decode cX4_begin 3 = .ok (.iconst 2, 1) := by decide +kernel
theorem dX4_begin_4 : decode cX4_begin 4 = .ok (.idiv, 1) := by decide +kernel
theorem dX4_begin_5 : decode cX4_begin 5 = .ok (.ireturn, 1) := by decide +kernel
theorem dX4_end_0 : decode cX4_end 0 = .ok (.aload_n 0, 1) := by decide +kernel
theorem dX4_end_1 : decode cX4_end 1 = .ok (.iconst 1, 1) := by decide +kernel
theorem dX4_end_2 : decode cX4_end 2 = .ok (.iaload, 1) := by decide +kernel
theorem dX4_end_3 : decode cX4_end 3 = .ok (.iconst 2, 1) := by decide +kernel
theorem dX4_end_4 : decode cX4_end 4 = .ok (.irem, 1) := by decide +kernel
theorem dX4_end_5 : decode cX4_end 5 = .ok (.ifCond .ne 11, 3) := by decide +kernel
theorem dX4_end_8 : decode cX4_end 8 = .ok (.aload_n 0, 1) := by decide +kernel
theorem dX4_end_9 : decode cX4_end 9 = .ok (.iconst 1, 1) := by decide +kernel
theorem dX4_end_10 : decode cX4_end 10 = .ok (.iaload, 1) := by decide +kernel
theorem dX4_end_11 : decode cX4_end 11 = .ok (.iconst 2, 1) := by decide +kernel
theorem dX4_end_12 : decode cX4_end 12 = .ok (.idiv, 1) := by decide +kernel
theorem dX4_end_13 : decode cX4_end 13 = .ok (.goto 10, 3) := by decide +kernel
theorem dX4_end_16 : decode cX4_end 16 = .ok (.aload_n 0, 1) := by decide +kernel
theorem dX4_end_17 : decode cX4_end 17 = .ok (.iconst 1, 1) := by decide +kernel
theorem dX4_end_18 : decode cX4_end 18 = .ok (.iaload, 1) := by decide +kernel
theorem dX4_end_19 : decode cX4_end 19 = .ok (.iconst 2, 1) := by decide +kernel
theorem dX4_end_20 : decode cX4_end 20 = .ok (.idiv, 1) := by decide +kernel
theorem dX4_end_21 : decode cX4_end 21 = .ok (.iconst 1, 1) := by decide +kernel
theorem dX4_end_22 : decode cX4_end 22 = .ok (.iadd, 1) := by decide +kernel
theorem dX4_end_23 : decode cX4_end 23 = .ok (.ireturn, 1) := by decide +kernel
set_option maxRecDepth 20000 in
theorem ggX4_gaps_X4_with : GoodIn wsX4_gaps wsX4_with := goodIn_r _ [6, 1, 7, 8, 9, 10] (by decide +kernel) (by decide +kernel)
set_option maxRecDepth 20000 in
theorem gX4_gaps_X4_with : GoodIn wsX4_gaps (va_wsS RX4 51 yX4_with wsX4_with) := goodIn_app (goodIn_of _ (by decide +kernel)) ggX4_gaps_X4_with
theorem dX4_gaps_0 : decode cX4_gaps 0 = .ok (.iconst 0, 1) := by decide +kernel
theorem dX4_gaps_1 : decode cX4_gaps 1 = .ok (.anewarray 44, 3) := by decide +kernel
theorem dX4_gaps_4 : decode cX4_gaps 4 = .ok (.astore_n 1, 1) := by decide +kernel
theorem dX4_gaps_5 : decode cX4_gaps 5 = .ok (.iconst 0, 1) := by decide +kernel
theorem dX4_gaps_6 : decode cX4_gaps 6 = .ok (.istore_n 2, 1) := by decide +kernel
theorem dX4_gaps_7 : decode cX4_gaps 7 = .ok (.iconst 0, 1) := by decide +kernel
theorem dX4_gaps_8 : decode cX4_gaps 8 = .ok (.istore_n 3, 1) := by decide +kernel
theorem dX4_gaps_9 : decode cX4_gaps 9 = .ok (.iload_n 3, 1) := by decide +kernel
theorem dX4_gaps_10 : decode cX4_gaps 10 = .ok (.aload_n 0, 1) := by decide +kernel
theorem dX4_gaps_11 : decode cX4_gaps 11 = .ok (.arraylength, 1) := by decide +kernel
theorem dX4_gaps_12 : decode cX4_gaps 12 = .ok (.if_icmp .gt 75, 3) := by decide +kernel
theorem dX4_gaps_15 : decode cX4_gaps 15 = .ok (.iload_n 3, 1) := by decide +kernel
theorem dX4_gaps_16 : decode cX4_gaps 16 = .ok (.aload_n 0, 1) := by decide +kernel
theorem dX4_gaps_17 : decode cX4_gaps 17 = .ok (.arraylength, 1) := by decide +kernel
theorem dX4_gaps_18 : decode cX4_gaps 18 = .ok (.if_icmp .ge 13, 3) := by decide +kernel
theorem dX4_gaps_21 : decode cX4_gaps 21 = .ok (.aload_n 0, 1) := by decide +kernel
theorem dX4_gaps_22 : decode cX4_gaps 22 = .ok (.iload_n 3, 1) := by decide +kernel
theorem dX4_gaps_23 : decode cX4_gaps 23 = .ok (.aaload, 1) := by decide +kernel
theorem dX4_gaps_24 : decode cX4_gaps 24 = .ok (.iconst 0, 1) := by decide +kernel
theorem dX4_gaps_25 : decode cX4_gaps 25 = .ok (.iaload, 1) := by decide +kernel
theorem dX4_gaps_26 : decode cX4_gaps 26 = .ok (.iconst 1, 1) := by decide +kernel
theorem dX4_gaps_27 : decode cX4_gaps 27 = .ok (.isub, 1) := by decide +kernel
theorem dX4_gaps_28 : decode cX4_gaps 28 = .ok (.goto 6, 3) := by decide +kernel
theorem dX4_gaps_31 : decode cX4_gaps 31 = .ok (.sipush 200, 3) := by decide +kernel
theorem dX4_gaps_34 : decode cX4_gaps 34 = .ok (.istore 4, 2) := by decide +kernel
theorem dX4_gaps_36 : decode cX4_gaps 36 = .ok (.iconst 2, 1) := by decide +kernel
theorem dX4_gaps_37 : decode cX4_gaps 37 = .ok (.newarray .int, 2) := by decide +kernel
theorem dX4_gaps_39 : decode cX4_gaps 39 = .ok (.dup, 1) := by decide +kernel
theorem dX4_gaps_40 : decode cX4_gaps 40 = .ok (.iconst 0, 1) := by decide +kernel
theorem dX4_gaps_41 : decode cX4_gaps 41 = .ok (.iload_n 2, 1) := by decide +kernel
theorem dX4_gaps_42 : decode cX4_gaps 42 = .ok (.iastore, 1) := by decide +kernel
theorem dX4_gaps_43 : decode cX4_gaps 43 = .ok (.dup, 1) := by decide +kernel
theorem dX4_gaps_44 : decode cX4_gaps 44 = .ok (.iconst 1, 1) := by decide +kernel
theorem dX4_gaps_45 : decode cX4_gaps 45 = .ok (.iload 4, 2) := by decide +kernel
theorem dX4_gaps_47 : decode cX4_gaps 47 = .ok (.iastore, 1) := by decide +kernel
theorem dX4_gaps_48 : decode cX4_gaps 48 = .ok (.astore 5, 2) := by decide +kernel
theorem dX4_gaps_50 : decode cX4_gaps 50 = .ok (.iload 4, 2) := by decide +kernel
theorem dX4_gaps_52 : decode cX4_gaps 52 = .ok (.iload_n 2, 1) := by decide +kernel
theorem dX4_gaps_53 : decode cX4_gaps 53 = .ok (.if_icmp .lt 10, 3) := by decide +kernel
theorem dX4_gaps_56 : decode cX4_gaps 56 = .ok (.aload_n 1, 1) := by decide +kernel
theorem dX4_gaps_57 : decode cX4_gaps 57 = .ok (.aload 5, 2) := by decide +kernel
theorem dX4_gaps_59 : decode cX4_gaps 59 = .ok (.invokestatic 51, 3) := by decide +kernel
theorem dX4_gaps_62 : decode cX4_gaps 62 = .ok (.astore_n 1, 1) := by decide +kernel
theorem dX4_gaps_63 : decode cX4_gaps 63 = .ok (.iload_n 3, 1) := by decide +kernel
theorem dX4_gaps_64 : decode cX4_gaps 64 = .ok (.aload_n 0, 1) := by decide +kernel
theorem dX4_gaps_65 : decode cX4_gaps 65 = .ok (.arraylength, 1) := by decide +kernel
theorem dX4_gaps_66 : decode cX4_gaps 66 = .ok (.if_icmp .ge 13, 3) := by decide +kernel
theorem dX4_gaps_69 : decode cX4_gaps 69 = .ok (.aload_n 0, 1) := by decide +kernel
theorem dX4_gaps_70 : decode cX4_gaps 70 = .ok (.iload_n 3, 1) := by decide +kernel
theorem dX4_gaps_71 : decode cX4_gaps 71 = .ok (.aaload, 1) := by decide +kernel
theorem dX4_gaps_72 : decode cX4_gaps 72 = .ok (.iconst 1, 1) := by decide +kernel
theorem dX4_gaps_73 : decode cX4_gaps 73 = .ok (.iaload, 1) := by decide +kernel
theorem dX4_gaps_74 : decode cX4_gaps 74 = .ok (.iconst 1, 1) := by decide +kernel
theorem dX4_gaps_75 : decode cX4_gaps 75 = .ok (.iadd, 1) := by decide +kernel
theorem dX4_gaps_76 : decode cX4_gaps 76 = .ok (.goto 4, 3) := by decide +kernel
theorem dX4_gaps_79 : decode cX4_gaps 79 = .ok (.iconst 0, 1) := by decide +kernel
theorem dX4_gaps_80 : decode cX4_gaps 80 = .ok (.istore_n 2, 1) := by decide +kernel
theorem dX4_gaps_81 : decode cX4_gaps 81 = .ok (.iinc 3 1, 3) := by decide +kernel
theorem dX4_gaps_84 : decode cX4_gaps 84 = .ok (.goto (-75), 3) := by decide +kernel
theorem dX4_gaps_87 : decode cX4_gaps 87 = .ok (.aload_n 1, 1) := by decide +kernel
theorem dX4_gaps_88 : decode cX4_gaps 88 = .ok (.areturn, 1) := by decide +kernel
set_option maxRecDepth 20000 in
theorem ggX4_any_X4_draw : GoodIn wsX4_any wsX4_draw := goodIn_r _ [13, 14, 15, 16, 17, 18, 19, 20, 21, 22, 23, 24, 25, 26, 27] (by decide +kernel) (by decide +kernel)
set_option maxRecDepth 20000 in
theorem gX4_any_X4_draw : GoodIn wsX4_any (wsV RX4 62 RX4 yX4_draw wsX4_draw) := goodIn_app (goodIn_of _ (by decide +kernel)) ggX4_any_X4_draw
theorem dX4_any_0 : decode cX4_any 0 = .ok (.aload_n 0, 1) := by decide +kernel
theorem dX4_any_1 : decode cX4_any 1 = .ok (.bipush 101, 2) := by decide +kernel
theorem dX4_any_3 : decode cX4_any 3 = .ok (.invokevirtual 62, 3) := by decide +kernel
theorem dX4_any_6 : decode cX4_any 6 = .ok (.istore_n 1, 1) := by decide +kernel
theorem dX4_any_7 : decode cX4_any 7 = .ok (.aload_n 0, 1) := by decide +kernel
theorem dX4_any_8 : decode cX4_any 8 = .ok (.iconst 3, 1) := by decide +kernel
theorem dX4_any_9 : decode cX4_any 9 = .ok (.invokevirtual 62, 3) := by decide +kernel
theorem dX4_any_12 : decode cX4_any 12 = .ok (.ifCond .ne 12, 3) := by decide +kernel
theorem dX4_any_15 : decode cX4_any 15 = .ok (.aload_n 0, 1) := by decide +kernel
theorem dX4_any_16 : decode cX4_any 16 = .ok (.bipush 101, 2) := by decide +kernel
theorem dX4_any_18 : decode cX4_any 18 = .ok (.invokevirtual 62, 3) := by decide +kernel
theorem dX4_any_21 : decode cX4_any 21 = .ok (.goto 16, 3) := by decide +kernel
theorem dX4_any_24 : decode cX4_any 24 = .ok (.bipush 100, 2) := by decide +kernel
theorem dX4_any_26 : decode cX4_any 26 = .ok (.iload_n 1, 1) := by decide +kernel
theorem dX4_any_27 : decode cX4_any 27 = .ok (.aload_n 0, 1) := by decide +kernel
theorem dX4_any_28 : decode cX4_any 28 = .ok (.bipush 14, 2) := by decide +kernel
theorem dX4_any_30 : decode cX4_any 30 = .ok (.invokevirtual 62, 3) := by decide +kernel
theorem dX4_any_33 : decode cX4_any 33 = .ok (.iadd, 1) := by decide +kernel
theorem dX4_any_34 : decode cX4_any 34 = .ok (.invokestatic 66, 3) := by decide +kernel
theorem dX4_any_37 : decode cX4_any 37 = .ok (.istore_n 2, 1) := by decide +kernel
theorem dX4_any_38 : decode cX4_any 38 = .ok (.aload_n 0, 1) := by decide +kernel
theorem dX4_any_39 : decode cX4_any 39 = .ok (.iconst 4, 1) := by decide +kernel
theorem dX4_any_40 : decode cX4_any 40 = .ok (.invokevirtual 62, 3) := by decide +kernel
theorem dX4_any_43 : decode cX4_any 43 = .ok (.istore_n 3, 1) := by decide +kernel
theorem dX4_any_44 : decode cX4_any 44 = .ok (.iload_n 1, 1) := by decide +kernel
theorem dX4_any_45 : decode cX4_any 45 = .ok (.iload_n 2, 1) := by decide +kernel
theorem dX4_any_46 : decode cX4_any 46 = .ok (.invokestatic 66, 3) := by decide +kernel
theorem dX4_any_49 : decode cX4_any 49 = .ok (.istore 4, 2) := by decide +kernel
theorem dX4_any_51 : decode cX4_any 51 = .ok (.iload_n 1, 1) := by decide +kernel
theorem dX4_any_52 : decode cX4_any 52 = .ok (.iload_n 2, 1) := by decide +kernel
theorem dX4_any_53 : decode cX4_any 53 = .ok (.invokestatic 71, 3) := by decide +kernel
theorem dX4_any_56 : decode cX4_any 56 = .ok (.istore 5, 2) := by decide +kernel
theorem dX4_any_58 : decode cX4_any 58 = .ok (.iconst 5, 1) := by decide +kernel
theorem dX4_any_59 : decode cX4_any 59 = .ok (.newarray .int, 2) := by decide +kernel
theorem dX4_any_61 : decode cX4_any 61 = .ok (.dup, 1) := by decide +kernel
theorem dX4_any_62 : decode cX4_any 62 = .ok (.iconst 0, 1) := by decide +kernel
theorem dX4_any_63 : decode cX4_any 63 = .ok (.iconst 2, 1) := by decide +kernel
theorem dX4_any_64 : decode cX4_any 64 = .ok (.iload 4, 2) := by decide +kernel
theorem dX4_any_66 : decode cX4_any 66 = .ok (.imul, 1) := by decide +kernel
theorem dX4_any_67 : decode cX4_any 67 = .ok (.iconst 1, 1) := by decide +kernel
theorem dX4_any_68 : decode cX4_any 68 = .ok (.iadd, 1) := by decide +kernel
theorem dX4_any_69 : decode cX4_any 69 = .ok (.iload_n 3, 1) := by decide +kernel
theorem dX4_any_70 : decode cX4_any 70 = .ok (.iconst 2, 1) := by decide +kernel
theorem dX4_any_71 : decode cX4_any 71 = .ok (.irem, 1) := by decide +kernel
theorem dX4_any_72 : decode cX4_any 72 = .ok (.isub, 1) := by decide +kernel
theorem dX4_any_73 : decode cX4_any 73 = .ok (.iastore, 1) := by decide +kernel
theorem dX4_any_74 : decode cX4_any 74 = .ok (.dup, 1) := by decide +kernel
theorem dX4_any_75 : decode cX4_any 75 = .ok (.iconst 1, 1) := by decide +kernel
theorem dX4_any_76 : decode cX4_any 76 = .ok (.iconst 2, 1) := by decide +kernel
theorem dX4_any_77 : decode cX4_any 77 = .ok (.iload 5, 2) := by decide +kernel
theorem dX4_any_79 : decode cX4_any 79 = .ok (.imul, 1) := by decide +kernel
theorem dX4_any_80 : decode cX4_any 80 = .ok (.iconst 1, 1) := by decide +kernel
theorem dX4_any_81 : decode cX4_any 81 = .ok (.isub, 1) := by decide +kernel
theorem dX4_any_82 : decode cX4_any 82 = .ok (.iload_n 3, 1) := by decide +kernel
theorem dX4_any_83 : decode cX4_any 83 = .ok (.iconst 2, 1) := by decide +kernel
theorem dX4_any_84 : decode cX4_any 84 = .ok (.idiv, 1) := by decide +kernel
theorem dX4_any_85 : decode cX4_any 85 = .ok (.iadd, 1) := by decide +kernel
theorem dX4_any_86 : decode cX4_any 86 = .ok (.iastore, 1) := by decide +kernel
theorem dX4_any_87 : decode cX4_any 87 = .ok (.dup, 1) := by decide +kernel
theorem dX4_any_88 : decode cX4_any 88 = .ok (.iconst 2, 1) := by decide +kernel
theorem dX4_any_89 : decode cX4_any 89 = .ok (.iload 4, 2) := by decide +kernel
theorem dX4_any_91 : decode cX4_any 91 = .ok (.iastore, 1) := by decide +kernel
theorem dX4_any_92 : decode cX4_any 92 = .ok (.dup, 1) := by decide +kernel
theorem dX4_any_93 : decode cX4_any 93 = .ok (.iconst 3, 1) := by decide +kernel
theorem dX4_any_94 : decode cX4_any 94 = .ok (.iload 5, 2) := by decide +kernel
theorem dX4_any_96 : decode cX4_any 96 = .ok (.iastore, 1) := by decide +kernel
theorem dX4_any_97 : decode cX4_any 97 = .ok (.dup, 1) := by decide +kernel
theorem dX4_any_98 : decode cX4_any 98 = .ok (.iconst 4, 1) := by decide +kernel
theorem dX4_any_99 : decode cX4_any 99 = .ok (.iload_n 3, 1) := by decide +kernel
theorem dX4_any_100 : decode cX4_any 100 = .ok (.iastore, 1) := by decide +kernel
theorem dX4_any_101 : decode cX4_any 101 = .ok (.astore 6, 2) := by decide +kernel
theorem dX4_any_103 : decode cX4_any 103 = .ok (.iload 4, 2) := by decide +kernel
theorem dX4_any_105 : decode cX4_any 105 = .ok (.iload 5, 2) := by decide +kernel
theorem dX4_any_107 : decode cX4_any 107 = .ok (.if_icmp .ne 19, 3) := by decide +kernel
theorem dX4_any_110 : decode cX4_any 110 = .ok (.aload 6, 2) := by decide +kernel
theorem dX4_any_112 : decode cX4_any 112 = .ok (.iconst 0, 1) := by decide +kernel
theorem dX4_any_113 : decode cX4_any 113 = .ok (.iconst 2, 1) := by decide +kernel
theorem dX4_any_114 : decode cX4_any 114 = .ok (.iload 4, 2) := by decide +kernel
theorem dX4_any_116 : decode cX4_any 116 = .ok (.imul, 1) := by decide +kernel
theorem dX4_any_117 : decode cX4_any 117 = .ok (.iastore, 1) := by decide +kernel
theorem dX4_any_118 : decode cX4_any 118 = .ok (.aload 6, 2) := by decide +kernel
theorem dX4_any_120 : decode cX4_any 120 = .ok (.iconst 1, 1) := by decide +kernel
theorem dX4_any_121 : decode cX4_any 121 = .ok (.iconst 2, 1) := by decide +kernel
theorem dX4_any_122 : decode cX4_any 122 = .ok (.iload 4, 2) := by decide +kernel
theorem dX4_any_124 : decode cX4_any 124 = .ok (.imul, 1) := by decide +kernel
theorem dX4_any_125 : decode cX4_any 125 = .ok (.iastore, 1) := by decide +kernel
theorem dX4_any_126 : decode cX4_any 126 = .ok (.aload 6, 2) := by decide +kernel
theorem dX4_any_128 : decode cX4_any 128 = .ok (.areturn, 1) := by decide +kernel
set_option maxRecDepth 20000 in
theorem ggX4_span_X4_draw : GoodIn wsX4_span wsX4_draw := goodIn_r _ [7, 8, 9, 10, 11, 12, 13, 14, 15, 16, 89, 90, 91, 92, 93] (by decide +kernel) (by decide +kernel)
set_option maxRecDepth 20000 in
theorem gX4_span_X4_draw : GoodIn wsX4_span (wsV RX4 62 RX4 yX4_draw wsX4_draw) := goodIn_app (goodIn_of _ (by decide +kernel)) ggX4_span_X4_draw
set_option maxRecDepth 20000 in
theorem ggX4_span_X4_any : GoodIn wsX4_span wsX4_any := goodIn_r _ [20, 21, 22, 23, 24, 25, 26, 27, 28, 3, 4, 5, 6, 7, 8, 9, 10, 11, 12, 13, 14, 15, 16, 89, 90, 91, 92, 93] (by decide +kernel) (by decide +kernel)
set_option maxRecDepth 20000 in
theorem gX4_span_X4_any : GoodIn wsX4_span (wsV RX4 74 RX4 yX4_any wsX4_any) := goodIn_app (goodIn_of _ (by decide +kernel)) ggX4_span_X4_any
set_option maxRecDepth 20000 in
theorem ggX4_span_X4_row : GoodIn wsX4_span wsX4_row := goodIn_r _ [31, 32] (by decide +kernel) (by decide +kernel)
set_option maxRecDepth 20000 in
theorem gX4_span_X4_row : GoodIn wsX4_span (va_wsS RX4 78 yX4_row wsX4_row) := goodIn_app (goodIn_of _ (by decide +kernel)) ggX4_span_X4_row
set_option maxRecDepth 20000 in
theorem ggX4_span_X4_spans : GoodIn wsX4_span wsX4_spans := goodIn_r _ [35, 36, 28, 37, 38, 6, 39, 40, 41, 42, 43] (by decide +kernel) (by decide +kernel)
set_option maxRecDepth 20000 in
theorem gX4_span_X4_spans : GoodIn wsX4_span (va_wsS RX4 82 yX4_spans wsX4_spans) := goodIn_app (goodIn_of _ (by decide +kernel)) ggX4_span_X4_spans
set_option maxRecDepth 20000 in
theorem ggX4_span_X3_span : GoodIn wsX4_span wsX3_span := goodIn_ca (goodIn_ca (goodIn_r _ [48, 49, 50, 51, 47, 52, 53, 54, 55, 56, 57, 58, 59, 60, 61, 62, 63, 64, 65, 66, 67, 68, 69, 70, 71, 72, 73, 74, 75, 76, 77, 78, 79, 26, 23, 27, 80, 81, 82, 83, 84, 85, 86, 87, 88, 94, 95, 96, 97, 98, 99, 100] (by decide +kernel) (by decide +kernel)) (goodIn_sub (fun _ h => List.mem_cons_of_mem _ (List.mem_append_left _ (List.mem_append_right _ h))) (by decide +kernel))) (goodIn_sub (fun _ h => List.mem_cons_of_mem _ (List.mem_append_right _ h)) (by decide +kernel))
set_option maxRecDepth 20000 in
theorem gX4_span_X3_span : GoodIn wsX4_span (wsV RX4 86 RX3 yX3_span wsX3_span) := goodIn_app (goodIn_of _ (by decide +kernel)) ggX4_span_X3_span
theorem dX4_span_0 : decode cX4_span 0 = .ok (.aload_n 0, 1) := by decide +kernel
theorem dX4_span_1 : decode cX4_span 1 = .ok (.bipush 8, 2) := by decide +kernel
theorem dX4_span_3 : decode cX4_span 3 = .ok (.invokevirtual 62, 3) := by decide +kernel
theorem dX4_span_6 : decode cX4_span 6 = .ok (.istore_n 1, 1) := by decide +kernel
theorem dX4_span_7 : decode cX4_span 7 = .ok (.aload_n 0, 1) := by decide +kernel
theorem dX4_span_8 : decode cX4_span 8 = .ok (.invokevirtual 74, 3) := by decide +kernel
theorem dX4_span_11 : decode cX4_span 11 = .ok (.astore_n 2, 1) := by decide +kernel
theorem dX4_span_12 : decode cX4_span 12 = .ok (.aload_n 0, 1) := by decide +kernel
theorem dX4_span_13 : decode cX4_span 13 = .ok (.iconst 3, 1) := by decide +kernel
theorem dX4_span_14 : decode cX4_span 14 = .ok (.invokevirtual 62, 3) := by decide +kernel
theorem dX4_span_17 : decode cX4_span 17 = .ok (.ifCond .le 7, 3) := by decide +kernel
theorem dX4_span_20 : decode cX4_span 20 = .ok (.iconst 1, 1) := by decide +kernel
theorem dX4_span_21 : decode cX4_span 21 = .ok (.goto 4, 3) := by decide +kernel
theorem dX4_span_24 : decode cX4_span 24 = .ok (.iconst 0, 1) := by decide +kernel
theorem dX4_span_25 : decode cX4_span 25 = .ok (.istore_n 3, 1) := by decide +kernel
theorem dX4_span_26 : decode cX4_span 26 = .ok (.aload_n 0, 1) := by decide +kernel
theorem dX4_span_27 : decode cX4_span 27 = .ok (.getfield 18, 3) := by decide +kernel
theorem dX4_span_30 : decode cX4_span 30 = .ok (.iload_n 1, 1) := by decide +kernel
theorem dX4_span_31 : decode cX4_span 31 = .ok (.aaload, 1) := by decide +kernel
theorem dX4_span_32 : decode cX4_span 32 = .ok (.invokestatic 78, 3) := by decide +kernel
theorem dX4_span_35 : decode cX4_span 35 = .ok (.astore 4, 2) := by decide +kernel
theorem dX4_span_37 : decode cX4_span 37 = .ok (.iconst 0, 1) := by decide +kernel
theorem dX4_span_38 : decode cX4_span 38 = .ok (.istore 5, 2) := by decide +kernel
theorem dX4_span_40 : decode cX4_span 40 = .ok (.aload_n 2, 1) := by decide +kernel
theorem dX4_span_41 : decode cX4_span 41 = .ok (.iconst 0, 1) := by decide +kernel
theorem dX4_span_42 : decode cX4_span 42 = .ok (.iaload, 1) := by decide +kernel
theorem dX4_span_43 : decode cX4_span 43 = .ok (.istore 6, 2) := by decide +kernel
theorem dX4_span_45 : decode cX4_span 45 = .ok (.iload 6, 2) := by decide +kernel
theorem dX4_span_47 : decode cX4_span 47 = .ok (.aload_n 2, 1) := by decide +kernel
theorem dX4_span_48 : decode cX4_span 48 = .ok (.iconst 1, 1) := by decide +kernel
theorem dX4_span_49 : decode cX4_span 49 = .ok (.iaload, 1) := by decide +kernel
theorem dX4_span_50 : decode cX4_span 50 = .ok (.if_icmp .gt 34, 3) := by decide +kernel
theorem dX4_span_53 : decode cX4_span 53 = .ok (.iload 5, 2) := by decide +kernel
theorem dX4_span_55 : decode cX4_span 55 = .ok (.aload 4, 2) := by decide +kernel
theorem dX4_span_57 : decode cX4_span 57 = .ok (.iload 6, 2) := by decide +kernel
theorem dX4_span_59 : decode cX4_span 59 = .ok (.baload, 1) := by decide +kernel
theorem dX4_span_60 : decode cX4_span 60 = .ok (.iload_n 3, 1) := by decide +kernel
theorem dX4_span_61 : decode cX4_span 61 = .ok (.if_icmp .ne 7, 3) := by decide +kernel
theorem dX4_span_64 : decode cX4_span 64 = .ok (.iconst 0, 1) := by decide +kernel
theorem dX4_span_65 : decode cX4_span 65 = .ok (.goto 4, 3) := by decide +kernel
theorem dX4_span_68 : decode cX4_span 68 = .ok (.iconst 1, 1) := by decide +kernel
theorem dX4_span_69 : decode cX4_span 69 = .ok (.iadd, 1) := by decide +kernel
theorem dX4_span_70 : decode cX4_span 70 = .ok (.istore 5, 2) := by decide +kernel
theorem dX4_span_72 : decode cX4_span 72 = .ok (.aload 4, 2) := by decide +kernel
theorem dX4_span_74 : decode cX4_span 74 = .ok (.iload 6, 2) := by decide +kernel
theorem dX4_span_76 : decode cX4_span 76 = .ok (.iload_n 3, 1) := by decide +kernel
theorem dX4_span_77 : decode cX4_span 77 = .ok (.bastore, 1) := by decide +kernel
theorem dX4_span_78 : decode cX4_span 78 = .ok (.iinc 6 1, 3) := by decide +kernel
theorem dX4_span_81 : decode cX4_span 81 = .ok (.goto (-36), 3) := by decide +kernel
theorem dX4_span_84 : decode cX4_span 84 = .ok (.aload_n 0, 1) := by decide +kernel
theorem dX4_span_85 : decode cX4_span 85 = .ok (.getfield 18, 3) := by decide +kernel
theorem dX4_span_88 : decode cX4_span 88 = .ok (.iload_n 1, 1) := by decide +kernel
theorem dX4_span_89 : decode cX4_span 89 = .ok (.aload 4, 2) := by decide +kernel
theorem dX4_span_91 : decode cX4_span 91 = .ok (.invokestatic 82, 3) := by decide +kernel
theorem dX4_span_94 : decode cX4_span 94 = .ok (.aastore, 1) := by decide +kernel
theorem dX4_span_95 : decode cX4_span 95 = .ok (.aload_n 0, 1) := by decide +kernel
theorem dX4_span_96 : decode cX4_span 96 = .ok (.getfield 10, 3) := by decide +kernel
theorem dX4_span_99 : decode cX4_span 99 = .ok (.iload_n 1, 1) := by decide +kernel
theorem dX4_span_100 : decode cX4_span 100 = .ok (.aload_n 2, 1) := by decide +kernel
theorem dX4_span_101 : decode cX4_span 101 = .ok (.iconst 2, 1) := by decide +kernel
theorem dX4_span_102 : decode cX4_span 102 = .ok (.iaload, 1) := by decide +kernel
theorem dX4_span_103 : decode cX4_span 103 = .ok (.aload_n 2, 1) := by decide +kernel
theorem dX4_span_104 : decode cX4_span 104 = .ok (.iconst 3, 1) := by decide +kernel
theorem dX4_span_105 : decode cX4_span 105 = .ok (.iaload, 1) := by decide +kernel
theorem dX4_span_106 : decode cX4_span 106 = .ok (.aload_n 2, 1) := by decide +kernel
theorem dX4_span_107 : decode cX4_span 107 = .ok (.iconst 4, 1) := by decide +kernel
theorem dX4_span_108 : decode cX4_span 108 = .ok (.iaload, 1) := by decide +kernel
theorem dX4_span_109 : decode cX4_span 109 = .ok (.iload_n 3, 1) := by decide +kernel
theorem dX4_span_110 : decode cX4_span 110 = .ok (.invokevirtual 86, 3) := by decide +kernel
theorem dX4_span_113 : decode cX4_span 113 = .ok (.iload 5, 2) := by decide +kernel
theorem dX4_span_115 : decode cX4_span 115 = .ok (.if_icmp .ne 7, 3) := by decide +kernel
theorem dX4_span_118 : decode cX4_span 118 = .ok (.iconst 1, 1) := by decide +kernel
theorem dX4_span_119 : decode cX4_span 119 = .ok (.goto 4, 3) := by decide +kernel
theorem dX4_span_122 : decode cX4_span 122 = .ok (.iconst 0, 1) := by decide +kernel
theorem dX4_span_123 : decode cX4_span 123 = .ok (.ireturn, 1) := by decide +kernel
set_option maxRecDepth 20000 in
theorem ggX4_join_X4_draw : GoodIn wsX4_join wsX4_draw := goodIn_r _ [8, 9, 10, 11, 12, 13, 14, 15, 16, 17, 75, 76, 77, 78, 79] (by decide +kernel) (by decide +kernel)
set_option maxRecDepth 20000 in
theorem gX4_join_X4_draw : GoodIn wsX4_join (wsV RX4 62 RX4 yX4_draw wsX4_draw) := goodIn_app (goodIn_of _ (by decide +kernel)) ggX4_join_X4_draw
set_option maxRecDepth 20000 in
theorem ggX4_join_X4_isIn : GoodIn wsX4_join wsX4_isIn := goodIn_r _ [20] (by decide +kernel) (by decide +kernel)
set_option maxRecDepth 20000 in
theorem gX4_join_X4_isIn : GoodIn wsX4_join (va_wsS RX4 90 yX4_isIn wsX4_isIn) := goodIn_app (goodIn_of _ (by decide +kernel)) ggX4_join_X4_isIn
set_option maxRecDepth 20000 in
theorem ggX4_join_X4_spans : GoodIn wsX4_join wsX4_spans := goodIn_r _ [23, 24, 25, 26, 27, 7, 28, 29, 30, 31, 32] (by decide +kernel) (by decide +kernel)
set_option maxRecDepth 20000 in
theorem gX4_join_X4_spans : GoodIn wsX4_join (va_wsS RX4 82 yX4_spans wsX4_spans) := goodIn_app (goodIn_of _ (by decide +kernel)) ggX4_join_X4_spans
set_option maxRecDepth 20000 in
theorem ggX4_join_X3_join : GoodIn wsX4_join wsX3_join := goodIn_ca (goodIn_ca (goodIn_r _ [37, 38, 39, 40, 36, 41, 42, 43, 44, 45, 46, 47, 48, 49, 50, 51, 52, 53, 54, 55, 56, 57, 58, 59, 60, 61, 62, 63, 64, 65, 66, 67, 68, 69, 70, 71, 80, 81, 82, 83, 84, 85, 86] (by decide +kernel) (by decide +kernel)) (goodIn_sub (fun _ h => List.mem_cons_of_mem _ (List.mem_append_left _ (List.mem_append_right _ h))) (by decide +kernel))) (goodIn_sub (fun _ h => List.mem_cons_of_mem _ (List.mem_append_right _ h)) (by decide +kernel))
set_option maxRecDepth 20000 in
theorem gX4_join_X3_join : GoodIn wsX4_join (wsV RX4 94 RX3 yX3_join wsX3_join) := goodIn_app (goodIn_of _ (by decide +kernel)) ggX4_join_X3_join
set_option maxRecDepth 20000 in
theorem ggX4_join_X4_count : GoodIn wsX4_join wsX4_count := goodIn_r _ [74] (by decide +kernel) (by decide +kernel)
set_option maxRecDepth 20000 in
theorem gX4_join_X4_count : GoodIn wsX4_join (va_wsS RX4 98 yX4_count wsX4_count) := goodIn_app (goodIn_of _ (by decide +kernel)) ggX4_join_X4_count
theorem dX4_join_0 : decode cX4_join 0 = .ok (.aload_n 0, 1) := by decide +kernel
theorem dX4_join_1 : decode cX4_join 1 = .ok (.bipush 8, 2) := by decide +kernel
theorem dX4_join_3 : decode cX4_join 3 = .ok (.invokevirtual 62, 3) := by decide +kernel
theorem dX4_join_6 : decode cX4_join 6 = .ok (.istore_n 1, 1) := by decide +kernel
theorem dX4_join_7 : decode cX4_join 7 = .ok (.aload_n 0, 1) := by decide +kernel
theorem dX4_join_8 : decode cX4_join 8 = .ok (.bipush 8, 2) := by decide +kernel
theorem dX4_join_10 : decode cX4_join 10 = .ok (.invokevirtual 62, 3) := by decide +kernel
theorem dX4_join_13 : decode cX4_join 13 = .ok (.istore_n 2, 1) := by decide +kernel
theorem dX4_join_14 : decode cX4_join 14 = .ok (.aload_n 0, 1) := by decide +kernel
theorem dX4_join_15 : decode cX4_join 15 = .ok (.bipush 8, 2) := by decide +kernel
theorem dX4_join_17 : decode cX4_join 17 = .ok (.invokevirtual 62, 3) := by decide +kernel
theorem dX4_join_20 : decode cX4_join 20 = .ok (.istore_n 3, 1) := by decide +kernel
theorem dX4_join_21 : decode cX4_join 21 = .ok (.aload_n 0, 1) := by decide +kernel
theorem dX4_join_22 : decode cX4_join 22 = .ok (.iconst 4, 1) := by decide +kernel
theorem dX4_join_23 : decode cX4_join 23 = .ok (.invokevirtual 62, 3) := by decide +kernel
theorem dX4_join_26 : decode cX4_join 26 = .ok (.istore 4, 2) := by decide +kernel
theorem dX4_join_28 : decode cX4_join 28 = .ok (.sipush 201, 3) := by decide +kernel
theorem dX4_join_31 : decode cX4_join 31 = .ok (.newarray .boolean, 2) := by decide +kernel
theorem dX4_join_33 : decode cX4_join 33 = .ok (.astore 5, 2) := by decide +kernel
theorem dX4_join_35 : decode cX4_join 35 = .ok (.iconst 0, 1) := by decide +kernel
theorem dX4_join_36 : decode cX4_join 36 = .ok (.istore 6, 2) := by decide +kernel
theorem dX4_join_38 : decode cX4_join 38 = .ok (.iload 6, 2) := by decide +kernel
theorem dX4_join_40 : decode cX4_join 40 = .ok (.sipush 200, 3) := by decide +kernel
theorem dX4_join_43 : decode cX4_join 43 = .ok (.if_icmp .gt 113, 3) := by decide +kernel
theorem dX4_join_46 : decode cX4_join 46 = .ok (.aload_n 0, 1) := by decide +kernel
theorem dX4_join_47 : decode cX4_join 47 = .ok (.getfield 18, 3) := by decide +kernel
theorem dX4_join_50 : decode cX4_join 50 = .ok (.iload_n 2, 1) := by decide +kernel
theorem dX4_join_51 : decode cX4_join 51 = .ok (.aaload, 1) := by decide +kernel
theorem dX4_join_52 : decode cX4_join 52 = .ok (.iload 6, 2) := by decide +kernel
theorem dX4_join_54 : decode cX4_join 54 = .ok (.invokestatic 90, 3) := by decide +kernel
theorem dX4_join_57 : decode cX4_join 57 = .ok (.ifCond .eq 7, 3) := by decide +kernel
theorem dX4_join_60 : decode cX4_join 60 = .ok (.iconst 1, 1) := by decide +kernel
theorem dX4_join_61 : decode cX4_join 61 = .ok (.goto 4, 3) := by decide +kernel
theorem dX4_join_64 : decode cX4_join 64 = .ok (.iconst 0, 1) := by decide +kernel
theorem dX4_join_65 : decode cX4_join 65 = .ok (.aload_n 0, 1) := by decide +kernel
theorem dX4_join_66 : decode cX4_join 66 = .ok (.getfield 18, 3) := by decide +kernel
theorem dX4_join_69 : decode cX4_join 69 = .ok (.iload_n 3, 1) := by decide +kernel
theorem dX4_join_70 : decode cX4_join 70 = .ok (.aaload, 1) := by decide +kernel
theorem dX4_join_71 : decode cX4_join 71 = .ok (.iload 6, 2) := by decide +kernel
theorem dX4_join_73 : decode cX4_join 73 = .ok (.invokestatic 90, 3) := by decide +kernel
theorem dX4_join_76 : decode cX4_join 76 = .ok (.ifCond .eq 7, 3) := by decide +kernel
theorem dX4_join_79 : decode cX4_join 79 = .ok (.iconst 2, 1) := by decide +kernel
theorem dX4_join_80 : decode cX4_join 80 = .ok (.goto 4, 3) := by decide +kernel
theorem dX4_join_83 : decode cX4_join 83 = .ok (.iconst 0, 1) := by decide +kernel
theorem dX4_join_84 : decode cX4_join 84 = .ok (.iadd, 1) := by decide +kernel
theorem dX4_join_85 : decode cX4_join 85 = .ok (.istore 7, 2) := by decide +kernel
theorem dX4_join_87 : decode cX4_join 87 = .ok (.aload 5, 2) := by decide +kernel
theorem dX4_join_89 : decode cX4_join 89 = .ok (.iload 6, 2) := by decide +kernel
theorem dX4_join_91 : decode cX4_join 91 = .ok (.iload 7, 2) := by decide +kernel
theorem dX4_join_93 : decode cX4_join 93 = .ok (.iconst 3, 1) := by decide +kernel
theorem dX4_join_94 : decode cX4_join 94 = .ok (.if_icmp .ne 17, 3) := by decide +kernel
theorem dX4_join_97 : decode cX4_join 97 = .ok (.iload 4, 2) := by decide +kernel
theorem dX4_join_99 : decode cX4_join 99 = .ok (.iconst 2, 1) := by decide +kernel
theorem dX4_join_100 : decode cX4_join 100 = .ok (.if_icmp .ge 7, 3) := by decide +kernel
theorem dX4_join_103 : decode cX4_join 103 = .ok (.iconst 1, 1) := by decide +kernel
theorem dX4_join_104 : decode cX4_join 104 = .ok (.goto 45, 3) := by decide +kernel
theorem dX4_join_107 : decode cX4_join 107 = .ok (.iconst 0, 1) := by decide +kernel
theorem dX4_join_108 : decode cX4_join 108 = .ok (.goto 41, 3) := by decide +kernel
theorem dX4_join_111 : decode cX4_join 111 = .ok (.iload 7, 2) := by decide +kernel
theorem dX4_join_113 : decode cX4_join 113 = .ok (.iconst 1, 1) := by decide +kernel
theorem dX4_join_114 : decode cX4_join 114 = .ok (.if_icmp .ne 17, 3) := by decide +kernel
theorem dX4_join_117 : decode cX4_join 117 = .ok (.iload 4, 2) := by decide +kernel
theorem dX4_join_119 : decode cX4_join 119 = .ok (.iconst 1, 1) := by decide +kernel
theorem dX4_join_120 : decode cX4_join 120 = .ok (.if_icmp .eq 7, 3) := by decide +kernel
theorem dX4_join_123 : decode cX4_join 123 = .ok (.iconst 1, 1) := by decide +kernel
theorem dX4_join_124 : decode cX4_join 124 = .ok (.goto 25, 3) := by decide +kernel
theorem dX4_join_127 : decode cX4_join 127 = .ok (.iconst 0, 1) := by decide +kernel
theorem dX4_join_128 : decode cX4_join 128 = .ok (.goto 21, 3) := by decide +kernel
theorem dX4_join_131 : decode cX4_join 131 = .ok (.iload 7, 2) := by decide +kernel
theorem dX4_join_133 : decode cX4_join 133 = .ok (.iconst 2, 1) := by decide +kernel
theorem dX4_join_134 : decode cX4_join 134 = .ok (.if_icmp .ne 14, 3) := by decide +kernel
theorem dX4_join_137 : decode cX4_join 137 = .ok (.iload 4, 2) := by decide +kernel
theorem dX4_join_139 : decode cX4_join 139 = .ok (.iconst 3, 1) := by decide +kernel
theorem dX4_join_140 : decode cX4_join 140 = .ok (.irem, 1) := by decide +kernel
theorem dX4_join_141 : decode cX4_join 141 = .ok (.ifCond .ne 7, 3) := by decide +kernel
theorem dX4_join_144 : decode cX4_join 144 = .ok (.iconst 1, 1) := by decide +kernel
theorem dX4_join_145 : decode cX4_join 145 = .ok (.goto 4, 3) := by decide +kernel
theorem dX4_join_148 : decode cX4_join 148 = .ok (.iconst 0, 1) := by decide +kernel
theorem dX4_join_149 : decode cX4_join 149 = .ok (.bastore, 1) := by decide +kernel
theorem dX4_join_150 : decode cX4_join 150 = .ok (.iinc 6 1, 3) := by decide +kernel
theorem dX4_join_153 : decode cX4_join 153 = .ok (.goto (-115), 3) := by decide +kernel
theorem dX4_join_156 : decode cX4_join 156 = .ok (.aload_n 0, 1) := by decide +kernel
theorem dX4_join_157 : decode cX4_join 157 = .ok (.getfield 18, 3) := by decide +kernel
theorem dX4_join_160 : decode cX4_join 160 = .ok (.iload_n 1, 1) := by decide +kernel
theorem dX4_join_161 : decode cX4_join 161 = .ok (.aload 5, 2) := by decide +kernel
theorem dX4_join_163 : decode cX4_join 163 = .ok (.invokestatic 82, 3) := by decide +kernel
theorem dX4_join_166 : decode cX4_join 166 = .ok (.aastore, 1) := by decide +kernel
theorem dX4_join_167 : decode cX4_join 167 = .ok (.aload_n 0, 1) := by decide +kernel
theorem dX4_join_168 : decode cX4_join 168 = .ok (.getfield 10, 3) := by decide +kernel
theorem dX4_join_171 : decode cX4_join 171 = .ok (.iload_n 1, 1) := by decide +kernel
theorem dX4_join_172 : decode cX4_join 172 = .ok (.iload_n 2, 1) := by decide +kernel
theorem dX4_join_173 : decode cX4_join 173 = .ok (.iload_n 3, 1) := by decide +kernel
theorem dX4_join_174 : decode cX4_join 174 = .ok (.iload 4, 2) := by decide +kernel
theorem dX4_join_176 : decode cX4_join 176 = .ok (.invokevirtual 94, 3) := by decide +kernel
theorem dX4_join_179 : decode cX4_join 179 = .ok (.aload_n 0, 1) := by decide +kernel
theorem dX4_join_180 : decode cX4_join 180 = .ok (.getfield 18, 3) := by decide +kernel
theorem dX4_join_183 : decode cX4_join 183 = .ok (.iload_n 1, 1) := by decide +kernel
theorem dX4_join_184 : decode cX4_join 184 = .ok (.aaload, 1) := by decide +kernel
theorem dX4_join_185 : decode cX4_join 185 = .ok (.invokestatic 98, 3) := by decide +kernel
theorem dX4_join_188 : decode cX4_join 188 = .ok (.if_icmp .ne 7, 3) := by decide +kernel
theorem dX4_join_191 : decode cX4_join 191 = .ok (.iconst 1, 1) := by decide +kernel
theorem dX4_join_192 : decode cX4_join 192 = .ok (.goto 4, 3) := by decide +kernel
theorem dX4_join_195 : decode cX4_join 195 = .ok (.iconst 0, 1) := by decide +kernel
theorem dX4_join_196 : decode cX4_join 196 = .ok (.ireturn, 1) := by decide +kernel
set_option maxRecDepth 20000 in
theorem ggX4_change_X4_draw : GoodIn wsX4_change wsX4_draw := goodIn_r _ [13, 14, 15, 16, 17, 18, 19, 20, 21, 22, 160, 161, 162, 163, 164] (by decide +kernel) (by decide +kernel)
set_option maxRecDepth 20000 in
theorem gX4_change_X4_draw : GoodIn wsX4_change (wsV RX4 62 RX4 yX4_draw wsX4_draw) := goodIn_app (goodIn_of _ (by decide +kernel)) ggX4_change_X4_draw
set_option maxRecDepth 20000 in
theorem ggX4_change_X4_end : GoodIn wsX4_change wsX4_end := goodIn_r _ [25] (by decide +kernel) (by decide +kernel)
set_option maxRecDepth 20000 in
theorem gX4_change_X4_end : GoodIn wsX4_change (va_wsS RX4 55 yX4_end wsX4_end) := goodIn_app (goodIn_of _ (by decide +kernel)) ggX4_change_X4_end
set_option maxRecDepth 20000 in
theorem ggX4_change_X4_begin : GoodIn wsX4_change wsX4_begin := goodIn_r _ [28] (by decide +kernel) (by decide +kernel)
set_option maxRecDepth 20000 in
theorem gX4_change_X4_begin : GoodIn wsX4_change (va_wsS RX4 59 yX4_begin wsX4_begin) := goodIn_app (goodIn_of _ (by decide +kernel)) ggX4_change_X4_begin
set_option maxRecDepth 20000 in
theorem ggX4_change_X4_with : GoodIn wsX4_change wsX4_with := goodIn_r _ [31, 2, 32, 33, 34, 35] (by decide +kernel) (by decide +kernel)
set_option maxRecDepth 20000 in
theorem gX4_change_X4_with : GoodIn wsX4_change (va_wsS RX4 51 yX4_with wsX4_with) := goodIn_app (goodIn_of _ (by decide +kernel)) ggX4_change_X4_with
set_option maxRecDepth 20000 in
theorem ggX4_change_X4_gaps : GoodIn wsX4_change wsX4_gaps := goodIn_r _ [38, 2, 7, 29, 30, 12, 31, 32, 33, 34, 35] (by decide +kernel) (by decide +kernel)
set_option maxRecDepth 20000 in
theorem gX4_change_X4_gaps : GoodIn wsX4_change (va_wsS RX4 102 yX4_gaps wsX4_gaps) := goodIn_app (goodIn_of _ (by decide +kernel)) ggX4_change_X4_gaps
set_option maxRecDepth 20000 in
theorem ggX4_change_X3_change : GoodIn wsX4_change wsX3_change := goodIn_ca (goodIn_ca (goodIn_r _ [43, 44, 45, 46, 42, 47, 48, 49, 50, 51, 52, 53, 54, 55, 56, 57, 58, 59, 60, 61, 62, 63, 64, 65, 66, 67, 68, 69, 70, 71, 72, 73, 74, 75, 76, 77, 78, 79, 80, 81, 82, 83, 84, 85, 86, 87, 88, 89, 90, 91, 92, 93, 94, 95, 96, 97, 98, 99, 100, 101, 102, 103, 104, 105, 106, 107, 108, 109, 110, 111, 112, 113, 114, 115, 116, 117, 118, 119, 120, 121, 122, 123, 124, 125, 126, 127, 128, 129, 130, 131, 132, 133, 134, 135, 136, 137, 138, 139, 140, 141, 142, 4, 5, 6, 143, 144, 145, 146, 147, 148, 149, 150, 151, 152, 153, 154, 155, 156, 165, 166, 167, 168, 169, 170, 171, 172, 173, 174] (by decide +kernel) (by decide +kernel)) (goodIn_sub (fun _ h => List.mem_cons_of_mem _ (List.mem_append_left _ (List.mem_append_right _ h))) (by decide +kernel))) (goodIn_sub (fun _ h => List.mem_cons_of_mem _ (List.mem_append_right _ h)) (by decide +kernel))
set_option maxRecDepth 20000 in
theorem gX4_change_X3_change : GoodIn wsX4_change (wsV RX4 106 RX3 yX3_change wsX3_change) := goodIn_app (goodIn_of _ (by decide +kernel)) ggX4_change_X3_change
set_option maxRecDepth 20000 in
theorem ggX4_change_X4_count : GoodIn wsX4_change wsX4_count := goodIn_r _ [159] (by decide +kernel) (by decide +kernel)
set_option maxRecDepth 20000 in
theorem gX4_change_X4_count : GoodIn wsX4_change (va_wsS RX4 98 yX4_count wsX4_count) := goodIn_app (goodIn_of _ (by decide +kernel)) ggX4_change_X4_count
theorem dX4_change_0 : decode cX4_change 0 = .ok (.aload_n 0, 1) := by decide +kernel
theorem dX4_change_1 : decode cX4_change 1 = .ok (.bipush 8, 2) := by decide +kernel
theorem dX4_change_3 : decode cX4_change 3 = .ok (.invokevirtual 62, 3) := by decide +kernel
theorem dX4_change_6 : decode cX4_change 6 = .ok (.istore_n 1, 1) := by decide +kernel
theorem dX4_change_7 : decode cX4_change 7 = .ok (.aload_n 0, 1) := by decide +kernel
theorem dX4_change_8 : decode cX4_change 8 = .ok (.bipush 8, 2) := by decide +kernel
theorem dX4_change_10 : decode cX4_change 10 = .ok (.invokevirtual 62, 3) := by decide +kernel
theorem dX4_change_13 : decode cX4_change 13 = .ok (.istore_n 2, 1) := by decide +kernel
theorem dX4_change_14 : decode cX4_change 14 = .ok (.aload_n 0, 1) := by decide +kernel
theorem dX4_change_15 : decode cX4_change 15 = .ok (.getfield 18, 3) := by decide +kernel
theorem dX4_change_18 : decode cX4_change 18 = .ok (.iload_n 1, 1) := by decide +kernel
theorem dX4_change_19 : decode cX4_change 19 = .ok (.aaload, 1) := by decide +kernel
theorem dX4_change_20 : decode cX4_change 20 = .ok (.astore_n 3, 1) := by decide +kernel
theorem dX4_change_21 : decode cX4_change 21 = .ok (.iconst 0, 1) := by decide +kernel
theorem dX4_change_22 : decode cX4_change 22 = .ok (.anewarray 44, 3) := by decide +kernel
theorem dX4_change_25 : decode cX4_change 25 = .ok (.astore 4, 2) := by decide +kernel
theorem dX4_change_27 : decode cX4_change 27 = .ok (.iconst 0, 1) := by decide +kernel
theorem dX4_change_28 : decode cX4_change 28 = .ok (.istore 5, 2) := by decide +kernel
theorem dX4_change_30 : decode cX4_change 30 = .ok (.aload_n 3, 1) := by decide +kernel
theorem dX4_change_31 : decode cX4_change 31 = .ok (.astore 6, 2) := by decide +kernel
theorem dX4_change_33 : decode cX4_change 33 = .ok (.aload 6, 2) := by decide +kernel
theorem dX4_change_35 : decode cX4_change 35 = .ok (.arraylength, 1) := by decide +kernel
theorem dX4_change_36 : decode cX4_change 36 = .ok (.istore 7, 2) := by decide +kernel
theorem dX4_change_38 : decode cX4_change 38 = .ok (.iconst 0, 1) := by decide +kernel
theorem dX4_change_39 : decode cX4_change 39 = .ok (.istore 8, 2) := by decide +kernel
theorem dX4_change_41 : decode cX4_change 41 = .ok (.iload 8, 2) := by decide +kernel
theorem dX4_change_43 : decode cX4_change 43 = .ok (.iload 7, 2) := by decide +kernel
theorem dX4_change_45 : decode cX4_change 45 = .ok (.if_icmp .ge 34, 3) := by decide +kernel
theorem dX4_change_48 : decode cX4_change 48 = .ok (.aload 6, 2) := by decide +kernel
theorem dX4_change_50 : decode cX4_change 50 = .ok (.iload 8, 2) := by decide +kernel
theorem dX4_change_52 : decode cX4_change 52 = .ok (.aaload, 1) := by decide +kernel
theorem dX4_change_53 : decode cX4_change 53 = .ok (.astore 9, 2) := by decide +kernel
theorem dX4_change_55 : decode cX4_change 55 = .ok (.iload 5, 2) := by decide +kernel
theorem dX4_change_57 : decode cX4_change 57 = .ok (.aload 9, 2) := by decide +kernel
theorem dX4_change_59 : decode cX4_change 59 = .ok (.invokestatic 55, 3) := by decide +kernel
theorem dX4_change_62 : decode cX4_change 62 = .ok (.aload 9, 2) := by decide +kernel
theorem dX4_change_64 : decode cX4_change 64 = .ok (.invokestatic 59, 3) := by decide +kernel
theorem dX4_change_67 : decode cX4_change 67 = .ok (.isub, 1) := by decide +kernel
theorem dX4_change_68 : decode cX4_change 68 = .ok (.invokestatic 71, 3) := by decide +kernel
theorem dX4_change_71 : decode cX4_change 71 = .ok (.istore 5, 2) := by decide +kernel
theorem dX4_change_73 : decode cX4_change 73 = .ok (.iinc 8 1, 3) := by decide +kernel
theorem dX4_change_76 : decode cX4_change 76 = .ok (.goto (-35), 3) := by decide +kernel
theorem dX4_change_79 : decode cX4_change 79 = .ok (.iconst 0, 1) := by decide +kernel
theorem dX4_change_80 : decode cX4_change 80 = .ok (.istore 6, 2) := by decide +kernel
theorem dX4_change_82 : decode cX4_change 82 = .ok (.iload 6, 2) := by decide +kernel
theorem dX4_change_84 : decode cX4_change 84 = .ok (.aload_n 3, 1) := by decide +kernel
theorem dX4_change_85 : decode cX4_change 85 = .ok (.arraylength, 1) := by decide +kernel
theorem dX4_change_86 : decode cX4_change 86 = .ok (.if_icmp .ge 364, 3) := by decide +kernel
theorem dX4_change_89 : decode cX4_change 89 = .ok (.iconst 2, 1) := by decide +kernel
theorem dX4_change_90 : decode cX4_change 90 = .ok (.newarray .int, 2) := by decide +kernel
theorem dX4_change_92 : decode cX4_change 92 = .ok (.dup, 1) := by decide +kernel
theorem dX4_change_93 : decode cX4_change 93 = .ok (.iconst 0, 1) := by decide +kernel
theorem dX4_change_94 : decode cX4_change 94 = .ok (.aload_n 3, 1) := by decide +kernel
theorem dX4_change_95 : decode cX4_change 95 = .ok (.iload 6, 2) := by decide +kernel
theorem dX4_change_97 : decode cX4_change 97 = .ok (.aaload, 1) := by decide +kernel
theorem dX4_change_98 : decode cX4_change 98 = .ok (.iconst 0, 1) := by decide +kernel
theorem dX4_change_99 : decode cX4_change 99 = .ok (.iaload, 1) := by decide +kernel
theorem dX4_change_100 : decode cX4_change 100 = .ok (.iastore, 1) := by decide +kernel
theorem dX4_change_101 : decode cX4_change 101 = .ok (.dup, 1) := by decide +kernel
theorem dX4_change_102 : decode cX4_change 102 = .ok (.iconst 1, 1) := by decide +kernel
theorem dX4_change_103 : decode cX4_change 103 = .ok (.aload_n 3, 1) := by decide +kernel
theorem dX4_change_104 : decode cX4_change 104 = .ok (.iload 6, 2) := by decide +kernel
theorem dX4_change_106 : decode cX4_change 106 = .ok (.aaload, 1) := by decide +kernel
theorem dX4_change_107 : decode cX4_change 107 = .ok (.iconst 1, 1) := by decide +kernel
theorem dX4_change_108 : decode cX4_change 108 = .ok (.iaload, 1) := by decide +kernel
theorem dX4_change_109 : decode cX4_change 109 = .ok (.iastore, 1) := by decide +kernel
theorem dX4_change_110 : decode cX4_change 110 = .ok (.astore 7, 2) := by decide +kernel
theorem dX4_change_112 : decode cX4_change 112 = .ok (.iload_n 2, 1) := by decide +kernel
theorem dX4_change_113 : decode cX4_change 113 = .ok (.iconst 1, 1) := by decide +kernel
theorem dX4_change_114 : decode cX4_change 114 = .ok (.if_icmp .ne 123, 3) := by decide +kernel
theorem dX4_change_117 : decode cX4_change 117 = .ok (.aload 7, 2) := by decide +kernel
theorem dX4_change_119 : decode cX4_change 119 = .ok (.iconst 0, 1) := by decide +kernel
theorem dX4_change_120 : decode cX4_change 120 = .ok (.dup2, 1) := by decide +kernel
theorem dX4_change_121 : decode cX4_change 121 = .ok (.iaload, 1) := by decide +kernel
theorem dX4_change_122 : decode cX4_change 122 = .ok (.aload 7, 2) := by decide +kernel
theorem dX4_change_124 : decode cX4_change 124 = .ok (.iconst 0, 1) := by decide +kernel
theorem dX4_change_125 : decode cX4_change 125 = .ok (.iaload, 1) := by decide +kernel
theorem dX4_change_126 : decode cX4_change 126 = .ok (.iconst 2, 1) := by decide +kernel
theorem dX4_change_127 : decode cX4_change 127 = .ok (.irem, 1) := by decide +kernel
theorem dX4_change_128 : decode cX4_change 128 = .ok (.ifCond .ne 14, 3) := by decide +kernel
theorem dX4_change_131 : decode cX4_change 131 = .ok (.aload 7, 2) := by decide +kernel
theorem dX4_change_133 : decode cX4_change 133 = .ok (.iconst 0, 1) := by decide +kernel
theorem dX4_change_134 : decode cX4_change 134 = .ok (.iaload, 1) := by decide +kernel
theorem dX4_change_135 : decode cX4_change 135 = .ok (.ifCond .le 7, 3) := by decide +kernel
theorem dX4_change_138 : decode cX4_change 138 = .ok (.iconst 1, 1) := by decide +kernel
theorem dX4_change_139 : decode cX4_change 139 = .ok (.goto 4, 3) := by decide +kernel
theorem dX4_change_142 : decode cX4_change 142 = .ok (.iconst 0, 1) := by decide +kernel
theorem dX4_change_143 : decode cX4_change 143 = .ok (.iadd, 1) := by decide +kernel
theorem dX4_change_144 : decode cX4_change 144 = .ok (.iastore, 1) := by decide +kernel
theorem dX4_change_145 : decode cX4_change 145 = .ok (.aload 7, 2) := by decide +kernel
theorem dX4_change_147 : decode cX4_change 147 = .ok (.iconst 1, 1) := by decide +kernel
theorem dX4_change_148 : decode cX4_change 148 = .ok (.dup2, 1) := by decide +kernel
theorem dX4_change_149 : decode cX4_change 149 = .ok (.iaload, 1) := by decide +kernel
theorem dX4_change_150 : decode cX4_change 150 = .ok (.aload 7, 2) := by decide +kernel
theorem dX4_change_152 : decode cX4_change 152 = .ok (.iconst 1, 1) := by decide +kernel
theorem dX4_change_153 : decode cX4_change 153 = .ok (.iaload, 1) := by decide +kernel
theorem dX4_change_154 : decode cX4_change 154 = .ok (.iconst 2, 1) := by decide +kernel
theorem dX4_change_155 : decode cX4_change 155 = .ok (.irem, 1) := by decide +kernel
theorem dX4_change_156 : decode cX4_change 156 = .ok (.ifCond .ne 17, 3) := by decide +kernel
theorem dX4_change_159 : decode cX4_change 159 = .ok (.aload 7, 2) := by decide +kernel
theorem dX4_change_161 : decode cX4_change 161 = .ok (.iconst 1, 1) := by decide +kernel
theorem dX4_change_162 : decode cX4_change 162 = .ok (.iaload, 1) := by decide +kernel
theorem dX4_change_163 : decode cX4_change 163 = .ok (.sipush 200, 3) := by decide +kernel
theorem dX4_change_166 : decode cX4_change 166 = .ok (.if_icmp .ge 7, 3) := by decide +kernel
theorem dX4_change_169 : decode cX4_change 169 = .ok (.iconst 1, 1) := by decide +kernel
theorem dX4_change_170 : decode cX4_change 170 = .ok (.goto 4, 3) := by decide +kernel
theorem dX4_change_173 : decode cX4_change 173 = .ok (.iconst 0, 1) := by decide +kernel
theorem dX4_change_174 : decode cX4_change 174 = .ok (.isub, 1) := by decide +kernel
theorem dX4_change_175 : decode cX4_change 175 = .ok (.iastore, 1) := by decide +kernel
theorem dX4_change_176 : decode cX4_change 176 = .ok (.aload 7, 2) := by decide +kernel
theorem dX4_change_178 : decode cX4_change 178 = .ok (.iconst 0, 1) := by decide +kernel
theorem dX4_change_179 : decode cX4_change 179 = .ok (.iaload, 1) := by decide +kernel
theorem dX4_change_180 : decode cX4_change 180 = .ok (.ifCond .ne 12, 3) := by decide +kernel
theorem dX4_change_183 : decode cX4_change 183 = .ok (.aload_n 3, 1) := by decide +kernel
theorem dX4_change_184 : decode cX4_change 184 = .ok (.iload 6, 2) := by decide +kernel
theorem dX4_change_186 : decode cX4_change 186 = .ok (.aaload, 1) := by decide +kernel
theorem dX4_change_187 : decode cX4_change 187 = .ok (.iconst 1, 1) := by decide +kernel
theorem dX4_change_188 : decode cX4_change 188 = .ok (.iaload, 1) := by decide +kernel
theorem dX4_change_189 : decode cX4_change 189 = .ok (.ifCond .eq 255, 3) := by decide +kernel
theorem dX4_change_192 : decode cX4_change 192 = .ok (.aload 7, 2) := by decide +kernel
theorem dX4_change_194 : decode cX4_change 194 = .ok (.iconst 1, 1) := by decide +kernel
theorem dX4_change_195 : decode cX4_change 195 = .ok (.iaload, 1) := by decide +kernel
theorem dX4_change_196 : decode cX4_change 196 = .ok (.sipush 200, 3) := by decide +kernel
theorem dX4_change_199 : decode cX4_change 199 = .ok (.if_icmp .ne 18, 3) := by decide +kernel
theorem dX4_change_202 : decode cX4_change 202 = .ok (.aload_n 3, 1) := by decide +kernel
theorem dX4_change_203 : decode cX4_change 203 = .ok (.iload 6, 2) := by decide +kernel
theorem dX4_change_205 : decode cX4_change 205 = .ok (.aaload, 1) := by decide +kernel
theorem dX4_change_206 : decode cX4_change 206 = .ok (.iconst 0, 1) := by decide +kernel
theorem dX4_change_207 : decode cX4_change 207 = .ok (.iaload, 1) := by decide +kernel
theorem dX4_change_208 : decode cX4_change 208 = .ok (.sipush 200, 3) := by decide +kernel
theorem dX4_change_211 : decode cX4_change 211 = .ok (.if_icmp .ne 6, 3) := by decide +kernel
theorem dX4_change_214 : decode cX4_change 214 = .ok (.goto 230, 3) := by decide +kernel
theorem dX4_change_217 : decode cX4_change 217 = .ok (.aload 7, 2) := by decide +kernel
theorem dX4_change_219 : decode cX4_change 219 = .ok (.iconst 1, 1) := by decide +kernel
theorem dX4_change_220 : decode cX4_change 220 = .ok (.iaload, 1) := by decide +kernel
theorem dX4_change_221 : decode cX4_change 221 = .ok (.aload 7, 2) := by decide +kernel
theorem dX4_change_223 : decode cX4_change 223 = .ok (.iconst 0, 1) := by decide +kernel
theorem dX4_change_224 : decode cX4_change 224 = .ok (.iaload, 1) := by decide +kernel
theorem dX4_change_225 : decode cX4_change 225 = .ok (.if_icmp .lt 12, 3) := by decide +kernel
theorem dX4_change_228 : decode cX4_change 228 = .ok (.aload 4, 2) := by decide +kernel
theorem dX4_change_230 : decode cX4_change 230 = .ok (.aload 7, 2) := by decide +kernel
theorem dX4_change_232 : decode cX4_change 232 = .ok (.invokestatic 51, 3) := by decide +kernel
theorem dX4_change_235 : decode cX4_change 235 = .ok (.astore 4, 2) := by decide +kernel
theorem dX4_change_237 : decode cX4_change 237 = .ok (.iload_n 2, 1) := by decide +kernel
theorem dX4_change_238 : decode cX4_change 238 = .ok (.iconst 2, 1) := by decide +kernel
theorem dX4_change_239 : decode cX4_change 239 = .ok (.if_icmp .ne 80, 3) := by decide +kernel
theorem dX4_change_242 : decode cX4_change 242 = .ok (.aload 7, 2) := by decide +kernel
theorem dX4_change_244 : decode cX4_change 244 = .ok (.iconst 0, 1) := by decide +kernel
theorem dX4_change_245 : decode cX4_change 245 = .ok (.dup2, 1) := by decide +kernel
theorem dX4_change_246 : decode cX4_change 246 = .ok (.iaload, 1) := by decide +kernel
theorem dX4_change_247 : decode cX4_change 247 = .ok (.aload 7, 2) := by decide +kernel
theorem dX4_change_249 : decode cX4_change 249 = .ok (.iconst 0, 1) := by decide +kernel
theorem dX4_change_250 : decode cX4_change 250 = .ok (.iaload, 1) := by decide +kernel
theorem dX4_change_251 : decode cX4_change 251 = .ok (.iconst 2, 1) := by decide +kernel
theorem dX4_change_252 : decode cX4_change 252 = .ok (.irem, 1) := by decide +kernel
theorem dX4_change_253 : decode cX4_change 253 = .ok (.isub, 1) := by decide +kernel
theorem dX4_change_254 : decode cX4_change 254 = .ok (.iastore, 1) := by decide +kernel
theorem dX4_change_255 : decode cX4_change 255 = .ok (.aload 7, 2) := by decide +kernel
theorem dX4_change_257 : decode cX4_change 257 = .ok (.iconst 1, 1) := by decide +kernel
theorem dX4_change_258 : decode cX4_change 258 = .ok (.dup2, 1) := by decide +kernel
theorem dX4_change_259 : decode cX4_change 259 = .ok (.iaload, 1) := by decide +kernel
theorem dX4_change_260 : decode cX4_change 260 = .ok (.aload 7, 2) := by decide +kernel
theorem dX4_change_262 : decode cX4_change 262 = .ok (.iconst 1, 1) := by decide +kernel
theorem dX4_change_263 : decode cX4_change 263 = .ok (.iaload, 1) := by decide +kernel
theorem dX4_change_264 : decode cX4_change 264 = .ok (.iconst 2, 1) := by decide +kernel
theorem dX4_change_265 : decode cX4_change 265 = .ok (.irem, 1) := by decide +kernel
theorem dX4_change_266 : decode cX4_change 266 = .ok (.iadd, 1) := by decide +kernel
theorem dX4_change_267 : decode cX4_change 267 = .ok (.iastore, 1) := by decide +kernel
theorem dX4_change_268 : decode cX4_change 268 = .ok (.aload 4, 2) := by decide +kernel
theorem dX4_change_270 : decode cX4_change 270 = .ok (.arraylength, 1) := by decide +kernel
theorem dX4_change_271 : decode cX4_change 271 = .ok (.ifCond .le 39, 3) := by decide +kernel
theorem dX4_change_274 : decode cX4_change 274 = .ok (.aload 7, 2) := by decide +kernel
theorem dX4_change_276 : decode cX4_change 276 = .ok (.iconst 0, 1) := by decide +kernel
theorem dX4_change_277 : decode cX4_change 277 = .ok (.iaload, 1) := by decide +kernel
theorem dX4_change_278 : decode cX4_change 278 = .ok (.aload 4, 2) := by decide +kernel
theorem dX4_change_280 : decode cX4_change 280 = .ok (.aload 4, 2) := by decide +kernel
theorem dX4_change_282 : decode cX4_change 282 = .ok (.arraylength, 1) := by decide +kernel
theorem dX4_change_283 : decode cX4_change 283 = .ok (.iconst 1, 1) := by decide +kernel
theorem dX4_change_284 : decode cX4_change 284 = .ok (.isub, 1) := by decide +kernel
theorem dX4_change_285 : decode cX4_change 285 = .ok (.aaload, 1) := by decide +kernel
theorem dX4_change_286 : decode cX4_change 286 = .ok (.iconst 1, 1) := by decide +kernel
theorem dX4_change_287 : decode cX4_change 287 = .ok (.iaload, 1) := by decide +kernel
theorem dX4_change_288 : decode cX4_change 288 = .ok (.iconst 1, 1) := by decide +kernel
theorem dX4_change_289 : decode cX4_change 289 = .ok (.iadd, 1) := by decide +kernel
theorem dX4_change_290 : decode cX4_change 290 = .ok (.if_icmp .gt 20, 3) := by decide +kernel
theorem dX4_change_293 : decode cX4_change 293 = .ok (.aload 4, 2) := by decide +kernel
theorem dX4_change_295 : decode cX4_change 295 = .ok (.aload 4, 2) := by decide +kernel
theorem dX4_change_297 : decode cX4_change 297 = .ok (.arraylength, 1) := by decide +kernel
theorem dX4_change_298 : decode cX4_change 298 = .ok (.iconst 1, 1) := by decide +kernel
theorem dX4_change_299 : decode cX4_change 299 = .ok (.isub, 1) := by decide +kernel
theorem dX4_change_300 : decode cX4_change 300 = .ok (.aaload, 1) := by decide +kernel
theorem dX4_change_301 : decode cX4_change 301 = .ok (.iconst 1, 1) := by decide +kernel
theorem dX4_change_302 : decode cX4_change 302 = .ok (.aload 7, 2) := by decide +kernel
theorem dX4_change_304 : decode cX4_change 304 = .ok (.iconst 1, 1) := by decide +kernel
theorem dX4_change_305 : decode cX4_change 305 = .ok (.iaload, 1) := by decide +kernel
theorem dX4_change_306 : decode cX4_change 306 = .ok (.iastore, 1) := by decide +kernel
theorem dX4_change_307 : decode cX4_change 307 = .ok (.goto 12, 3) := by decide +kernel
theorem dX4_change_310 : decode cX4_change 310 = .ok (.aload 4, 2) := by decide +kernel
theorem dX4_change_312 : decode cX4_change 312 = .ok (.aload 7, 2) := by decide +kernel
theorem dX4_change_314 : decode cX4_change 314 = .ok (.invokestatic 51, 3) := by decide +kernel
theorem dX4_change_317 : decode cX4_change 317 = .ok (.astore 4, 2) := by decide +kernel
theorem dX4_change_319 : decode cX4_change 319 = .ok (.iload_n 2, 1) := by decide +kernel
theorem dX4_change_320 : decode cX4_change 320 = .ok (.iconst 3, 1) := by decide +kernel
theorem dX4_change_321 : decode cX4_change 321 = .ok (.if_icmp .ne 32, 3) := by decide +kernel
theorem dX4_change_324 : decode cX4_change 324 = .ok (.aload 7, 2) := by decide +kernel
theorem dX4_change_326 : decode cX4_change 326 = .ok (.iconst 0, 1) := by decide +kernel
theorem dX4_change_327 : decode cX4_change 327 = .ok (.iaload, 1) := by decide +kernel
theorem dX4_change_328 : decode cX4_change 328 = .ok (.aload 7, 2) := by decide +kernel
theorem dX4_change_330 : decode cX4_change 330 = .ok (.iconst 1, 1) := by decide +kernel
theorem dX4_change_331 : decode cX4_change 331 = .ok (.iaload, 1) := by decide +kernel
theorem dX4_change_332 : decode cX4_change 332 = .ok (.if_icmp .ne 21, 3) := by decide +kernel
theorem dX4_change_335 : decode cX4_change 335 = .ok (.aload 7, 2) := by decide +kernel
theorem dX4_change_337 : decode cX4_change 337 = .ok (.iconst 0, 1) := by decide +kernel
theorem dX4_change_338 : decode cX4_change 338 = .ok (.iaload, 1) := by decide +kernel
theorem dX4_change_339 : decode cX4_change 339 = .ok (.iconst 2, 1) := by decide +kernel
theorem dX4_change_340 : decode cX4_change 340 = .ok (.irem, 1) := by decide +kernel
theorem dX4_change_341 : decode cX4_change 341 = .ok (.ifCond .ne 12, 3) := by decide +kernel
theorem dX4_change_344 : decode cX4_change 344 = .ok (.aload 4, 2) := by decide +kernel
theorem dX4_change_346 : decode cX4_change 346 = .ok (.aload 7, 2) := by decide +kernel
theorem dX4_change_348 : decode cX4_change 348 = .ok (.invokestatic 51, 3) := by decide +kernel
theorem dX4_change_351 : decode cX4_change 351 = .ok (.astore 4, 2) := by decide +kernel
theorem dX4_change_353 : decode cX4_change 353 = .ok (.iload_n 2, 1) := by decide +kernel
theorem dX4_change_354 : decode cX4_change 354 = .ok (.iconst 4, 1) := by decide +kernel
theorem dX4_change_355 : decode cX4_change 355 = .ok (.if_icmp .ne 53, 3) := by decide +kernel
theorem dX4_change_358 : decode cX4_change 358 = .ok (.iconst 2, 1) := by decide +kernel
theorem dX4_change_359 : decode cX4_change 359 = .ok (.newarray .int, 2) := by decide +kernel
theorem dX4_change_361 : decode cX4_change 361 = .ok (.dup, 1) := by decide +kernel
theorem dX4_change_362 : decode cX4_change 362 = .ok (.iconst 0, 1) := by decide +kernel
theorem dX4_change_363 : decode cX4_change 363 = .ok (.sipush 200, 3) := by decide +kernel
theorem dX4_change_366 : decode cX4_change 366 = .ok (.aload_n 3, 1) := by decide +kernel
theorem dX4_change_367 : decode cX4_change 367 = .ok (.aload_n 3, 1) := by decide +kernel
theorem dX4_change_368 : decode cX4_change 368 = .ok (.arraylength, 1) := by decide +kernel
theorem dX4_change_369 : decode cX4_change 369 = .ok (.iconst 1, 1) := by decide +kernel
theorem dX4_change_370 : decode cX4_change 370 = .ok (.isub, 1) := by decide +kernel
theorem dX4_change_371 : decode cX4_change 371 = .ok (.iload 6, 2) := by decide +kernel
theorem dX4_change_373 : decode cX4_change 373 = .ok (.isub, 1) := by decide +kernel
theorem dX4_change_374 : decode cX4_change 374 = .ok (.aaload, 1) := by decide +kernel
theorem dX4_change_375 : decode cX4_change 375 = .ok (.iconst 1, 1) := by decide +kernel
theorem dX4_change_376 : decode cX4_change 376 = .ok (.iaload, 1) := by decide +kernel
theorem dX4_change_377 : decode cX4_change 377 = .ok (.isub, 1) := by decide +kernel
theorem dX4_change_378 : decode cX4_change 378 = .ok (.iastore, 1) := by decide +kernel
theorem dX4_change_379 : decode cX4_change 379 = .ok (.dup, 1) := by decide +kernel
theorem dX4_change_380 : decode cX4_change 380 = .ok (.iconst 1, 1) := by decide +kernel
theorem dX4_change_381 : decode cX4_change 381 = .ok (.sipush 200, 3) := by decide +kernel
theorem dX4_change_384 : decode cX4_change 384 = .ok (.aload_n 3, 1) := by decide +kernel
theorem dX4_change_385 : decode cX4_change 385 = .ok (.aload_n 3, 1) := by decide +kernel
theorem dX4_change_386 : decode cX4_change 386 = .ok (.arraylength, 1) := by decide +kernel
theorem dX4_change_387 : decode cX4_change 387 = .ok (.iconst 1, 1) := by decide +kernel
theorem dX4_change_388 : decode cX4_change 388 = .ok (.isub, 1) := by decide +kernel
theorem dX4_change_389 : decode cX4_change 389 = .ok (.iload 6, 2) := by decide +kernel
theorem dX4_change_391 : decode cX4_change 391 = .ok (.isub, 1) := by decide +kernel
theorem dX4_change_392 : decode cX4_change 392 = .ok (.aaload, 1) := by decide +kernel
theorem dX4_change_393 : decode cX4_change 393 = .ok (.iconst 0, 1) := by decide +kernel
theorem dX4_change_394 : decode cX4_change 394 = .ok (.iaload, 1) := by decide +kernel
theorem dX4_change_395 : decode cX4_change 395 = .ok (.isub, 1) := by decide +kernel
theorem dX4_change_396 : decode cX4_change 396 = .ok (.iastore, 1) := by decide +kernel
theorem dX4_change_397 : decode cX4_change 397 = .ok (.astore 8, 2) := by decide +kernel
theorem dX4_change_399 : decode cX4_change 399 = .ok (.aload 4, 2) := by decide +kernel
theorem dX4_change_401 : decode cX4_change 401 = .ok (.aload 8, 2) := by decide +kernel
theorem dX4_change_403 : decode cX4_change 403 = .ok (.invokestatic 51, 3) := by decide +kernel
theorem dX4_change_406 : decode cX4_change 406 = .ok (.astore 4, 2) := by decide +kernel
theorem dX4_change_408 : decode cX4_change 408 = .ok (.iload_n 2, 1) := by decide +kernel
theorem dX4_change_409 : decode cX4_change 409 = .ok (.iconst 5, 1) := by decide +kernel
theorem dX4_change_410 : decode cX4_change 410 = .ok (.if_icmp .ne 34, 3) := by decide +kernel
theorem dX4_change_413 : decode cX4_change 413 = .ok (.aload 4, 2) := by decide +kernel
theorem dX4_change_415 : decode cX4_change 415 = .ok (.arraylength, 1) := by decide +kernel
theorem dX4_change_416 : decode cX4_change 416 = .ok (.ifCond .ne 28, 3) := by decide +kernel
theorem dX4_change_419 : decode cX4_change 419 = .ok (.aload 7, 2) := by decide +kernel
theorem dX4_change_421 : decode cX4_change 421 = .ok (.invokestatic 55, 3) := by decide +kernel
theorem dX4_change_424 : decode cX4_change 424 = .ok (.aload 7, 2) := by decide +kernel
theorem dX4_change_426 : decode cX4_change 426 = .ok (.invokestatic 59, 3) := by decide +kernel
theorem dX4_change_429 : decode cX4_change 429 = .ok (.isub, 1) := by decide +kernel
theorem dX4_change_430 : decode cX4_change 430 = .ok (.iload 5, 2) := by decide +kernel
theorem dX4_change_432 : decode cX4_change 432 = .ok (.if_icmp .ne 12, 3) := by decide +kernel
theorem dX4_change_435 : decode cX4_change 435 = .ok (.aload 4, 2) := by decide +kernel
theorem dX4_change_437 : decode cX4_change 437 = .ok (.aload 7, 2) := by decide +kernel
theorem dX4_change_439 : decode cX4_change 439 = .ok (.invokestatic 51, 3) := by decide +kernel
theorem dX4_change_442 : decode cX4_change 442 = .ok (.astore 4, 2) := by decide +kernel
theorem dX4_change_444 : decode cX4_change 444 = .ok (.iinc 6 1, 3) := by decide +kernel
theorem dX4_change_447 : decode cX4_change 447 = .ok (.goto (-365), 3) := by decide +kernel
theorem dX4_change_450 : decode cX4_change 450 = .ok (.iload_n 2, 1) := by decide +kernel
theorem dX4_change_451 : decode cX4_change 451 = .ok (.ifCond .ne 9, 3) := by decide +kernel
theorem dX4_change_454 : decode cX4_change 454 = .ok (.aload_n 3, 1) := by decide +kernel
theorem dX4_change_455 : decode cX4_change 455 = .ok (.invokestatic 102, 3) := by decide +kernel
theorem dX4_change_458 : decode cX4_change 458 = .ok (.astore 4, 2) := by decide +kernel
theorem dX4_change_460 : decode cX4_change 460 = .ok (.iload_n 2, 1) := by decide +kernel
theorem dX4_change_461 : decode cX4_change 461 = .ok (.bipush 6, 2) := by decide +kernel
theorem dX4_change_463 : decode cX4_change 463 = .ok (.if_icmp .ne 41, 3) := by decide +kernel
theorem dX4_change_466 : decode cX4_change 466 = .ok (.aload_n 3, 1) := by decide +kernel
theorem dX4_change_467 : decode cX4_change 467 = .ok (.arraylength, 1) := by decide +kernel
theorem dX4_change_468 : decode cX4_change 468 = .ok (.ifCond .le 36, 3) := by decide +kernel
theorem dX4_change_471 : decode cX4_change 471 = .ok (.iconst 2, 1) := by decide +kernel
theorem dX4_change_472 : decode cX4_change 472 = .ok (.newarray .int, 2) := by decide +kernel
theorem dX4_change_474 : decode cX4_change 474 = .ok (.dup, 1) := by decide +kernel
theorem dX4_change_475 : decode cX4_change 475 = .ok (.iconst 0, 1) := by decide +kernel
theorem dX4_change_476 : decode cX4_change 476 = .ok (.aload_n 3, 1) := by decide +kernel
theorem dX4_change_477 : decode cX4_change 477 = .ok (.iconst 0, 1) := by decide +kernel
theorem dX4_change_478 : decode cX4_change 478 = .ok (.aaload, 1) := by decide +kernel
theorem dX4_change_479 : decode cX4_change 479 = .ok (.iconst 0, 1) := by decide +kernel
theorem dX4_change_480 : decode cX4_change 480 = .ok (.iaload, 1) := by decide +kernel
theorem dX4_change_481 : decode cX4_change 481 = .ok (.iastore, 1) := by decide +kernel
theorem dX4_change_482 : decode cX4_change 482 = .ok (.dup, 1) := by decide +kernel
theorem dX4_change_483 : decode cX4_change 483 = .ok (.iconst 1, 1) := by decide +kernel
theorem dX4_change_484 : decode cX4_change 484 = .ok (.aload_n 3, 1) := by decide +kernel
theorem dX4_change_485 : decode cX4_change 485 = .ok (.aload_n 3, 1) := by decide +kernel
theorem dX4_change_486 : decode cX4_change 486 = .ok (.arraylength, 1) := by decide +kernel
theorem dX4_change_487 : decode cX4_change 487 = .ok (.iconst 1, 1) := by decide +kernel
theorem dX4_change_488 : decode cX4_change 488 = .ok (.isub, 1) := by decide +kernel
theorem dX4_change_489 : decode cX4_change 489 = .ok (.aaload, 1) := by decide +kernel
theorem dX4_change_490 : decode cX4_change 490 = .ok (.iconst 1, 1) := by decide +kernel
theorem dX4_change_491 : decode cX4_change 491 = .ok (.iaload, 1) := by decide +kernel
theorem dX4_change_492 : decode cX4_change 492 = .ok (.iastore, 1) := by decide +kernel
theorem dX4_change_493 : decode cX4_change 493 = .ok (.astore 6, 2) := by decide +kernel
theorem dX4_change_495 : decode cX4_change 495 = .ok (.aload 4, 2) := by decide +kernel
theorem dX4_change_497 : decode cX4_change 497 = .ok (.aload 6, 2) := by decide +kernel
theorem dX4_change_499 : decode cX4_change 499 = .ok (.invokestatic 51, 3) := by decide +kernel
theorem dX4_change_502 : decode cX4_change 502 = .ok (.astore 4, 2) := by decide +kernel
theorem dX4_change_504 : decode cX4_change 504 = .ok (.aload_n 0, 1) := by decide +kernel
theorem dX4_change_505 : decode cX4_change 505 = .ok (.getfield 18, 3) := by decide +kernel
theorem dX4_change_508 : decode cX4_change 508 = .ok (.iload_n 1, 1) := by decide +kernel
theorem dX4_change_509 : decode cX4_change 509 = .ok (.aload 4, 2) := by decide +kernel
theorem dX4_change_511 : decode cX4_change 511 = .ok (.aastore, 1) := by decide +kernel
theorem dX4_change_512 : decode cX4_change 512 = .ok (.aload_n 0, 1) := by decide +kernel
theorem dX4_change_513 : decode cX4_change 513 = .ok (.getfield 10, 3) := by decide +kernel
theorem dX4_change_516 : decode cX4_change 516 = .ok (.iload_n 1, 1) := by decide +kernel
theorem dX4_change_517 : decode cX4_change 517 = .ok (.iload_n 2, 1) := by decide +kernel
theorem dX4_change_518 : decode cX4_change 518 = .ok (.invokevirtual 106, 3) := by decide +kernel
theorem dX4_change_521 : decode cX4_change 521 = .ok (.aload 4, 2) := by decide +kernel
theorem dX4_change_523 : decode cX4_change 523 = .ok (.invokestatic 98, 3) := by decide +kernel
theorem dX4_change_526 : decode cX4_change 526 = .ok (.if_icmp .ne 7, 3) := by decide +kernel
theorem dX4_change_529 : decode cX4_change 529 = .ok (.iconst 1, 1) := by decide +kernel
theorem dX4_change_530 : decode cX4_change 530 = .ok (.goto 4, 3) := by decide +kernel
theorem dX4_change_533 : decode cX4_change 533 = .ok (.iconst 0, 1) := by decide +kernel
theorem dX4_change_534 : decode cX4_change 534 = .ok (.ireturn, 1) := by decide +kernel
set_option maxRecDepth 20000 in
theorem ggX4_moved_X4_with : GoodIn wsX4_moved wsX4_with := goodIn_r _ [13, 1, 14, 15, 16, 17] (by decide +kernel) (by decide +kernel)
set_option maxRecDepth 20000 in
theorem gX4_moved_X4_with : GoodIn wsX4_moved (va_wsS RX4 51 yX4_with wsX4_with) := goodIn_app (goodIn_of _ (by decide +kernel)) ggX4_moved_X4_with
