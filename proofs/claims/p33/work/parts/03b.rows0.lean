theorem dX0_init_0 : decode cX0_init 0 = .ok (.aload_n 0, 1) := by decide +kernel
theorem dX0_init_1 : decode cX0_init 1 = .ok (.invokespecial 3, 3) := by decide +kernel
theorem dX0_init_4 : decode cX0_init 4 = .ok (.aload_n 0, 1) := by decide +kernel
theorem dX0_init_5 : decode cX0_init 5 = .ok (.sipush 201, 3) := by decide +kernel
theorem dX0_init_8 : decode cX0_init 8 = .ok (.newarray .boolean, 2) := by decide +kernel
theorem dX0_init_10 : decode cX0_init 10 = .ok (.putfield 9, 3) := by decide +kernel
theorem dX0_init_13 : decode cX0_init 13 = .ok (.return_, 1) := by decide +kernel
theorem dX0_holds_0 : decode cX0_holds 0 = .ok (.iload_n 1, 1) := by decide +kernel
theorem dX0_holds_1 : decode cX0_holds 1 = .ok (.ifCond .lt 25, 3) := by decide +kernel
theorem dX0_holds_4 : decode cX0_holds 4 = .ok (.iload_n 1, 1) := by decide +kernel
theorem dX0_holds_5 : decode cX0_holds 5 = .ok (.aload_n 0, 1) := by decide +kernel
theorem dX0_holds_6 : decode cX0_holds 6 = .ok (.getfield 9, 3) := by decide +kernel
theorem dX0_holds_9 : decode cX0_holds 9 = .ok (.arraylength, 1) := by decide +kernel
theorem dX0_holds_10 : decode cX0_holds 10 = .ok (.if_icmp .ge 16, 3) := by decide +kernel
theorem dX0_holds_13 : decode cX0_holds 13 = .ok (.aload_n 0, 1) := by decide +kernel
theorem dX0_holds_14 : decode cX0_holds 14 = .ok (.getfield 9, 3) := by decide +kernel
theorem dX0_holds_17 : decode cX0_holds 17 = .ok (.iload_n 1, 1) := by decide +kernel
theorem dX0_holds_18 : decode cX0_holds 18 = .ok (.baload, 1) := by decide +kernel
theorem dX0_holds_19 : decode cX0_holds 19 = .ok (.ifCond .eq 7, 3) := by decide +kernel
theorem dX0_holds_22 : decode cX0_holds 22 = .ok (.iconst 1, 1) := by decide +kernel
theorem dX0_holds_23 : decode cX0_holds 23 = .ok (.goto 4, 3) := by decide +kernel
theorem dX0_holds_26 : decode cX0_holds 26 = .ok (.iconst 0, 1) := by decide +kernel
theorem dX0_holds_27 : decode cX0_holds 27 = .ok (.ireturn, 1) := by decide +kernel
theorem dX0_write_0 : decode cX0_write 0 = .ok (.iload_n 1, 1) := by decide +kernel
theorem dX0_write_1 : decode cX0_write 1 = .ok (.ifCond .lt 19, 3) := by decide +kernel
theorem dX0_write_4 : decode cX0_write 4 = .ok (.iload_n 1, 1) := by decide +kernel
theorem dX0_write_5 : decode cX0_write 5 = .ok (.aload_n 0, 1) := by decide +kernel
theorem dX0_write_6 : decode cX0_write 6 = .ok (.getfield 9, 3) := by decide +kernel
theorem dX0_write_9 : decode cX0_write 9 = .ok (.arraylength, 1) := by decide +kernel
theorem dX0_write_10 : decode cX0_write 10 = .ok (.if_icmp .ge 10, 3) := by decide +kernel
theorem dX0_write_13 : decode cX0_write 13 = .ok (.aload_n 0, 1) := by decide +kernel
theorem dX0_write_14 : decode cX0_write 14 = .ok (.getfield 9, 3) := by decide +kernel
theorem dX0_write_17 : decode cX0_write 17 = .ok (.iload_n 1, 1) := by decide +kernel
theorem dX0_write_18 : decode cX0_write 18 = .ok (.iload_n 2, 1) := by decide +kernel
theorem dX0_write_19 : decode cX0_write 19 = .ok (.bastore, 1) := by decide +kernel
theorem dX0_write_20 : decode cX0_write 20 = .ok (.return_, 1) := by decide +kernel
set_option maxRecDepth 20000 in
theorem ggX0_fill_X0_holds : GoodIn wsX0_fill wsX0_holds := goodIn_r _ [9, 10, 15] (by decide +kernel) (by decide +kernel)
set_option maxRecDepth 20000 in
theorem gX0_fill_X0_holds : GoodIn wsX0_fill (wsV RX0 21 RX0 yX0_holds wsX0_holds) := goodIn_app (goodIn_of _ (by decide +kernel)) ggX0_fill_X0_holds
set_option maxRecDepth 20000 in
theorem ggX0_fill_X0_write : GoodIn wsX0_fill wsX0_write := goodIn_r _ [14, 10, 15] (by decide +kernel) (by decide +kernel)
set_option maxRecDepth 20000 in
theorem gX0_fill_X0_write : GoodIn wsX0_fill (wsV RX0 25 RX0 yX0_write wsX0_write) := goodIn_app (goodIn_of _ (by decide +kernel)) ggX0_fill_X0_write
theorem dX0_fill_0 : decode cX0_fill 0 = .ok (.iconst 0, 1) := by decide +kernel
theorem dX0_fill_1 : decode cX0_fill 1 = .ok (.istore 4, 2) := by decide +kernel
theorem dX0_fill_3 : decode cX0_fill 3 = .ok (.iload_n 1, 1) := by decide +kernel
theorem dX0_fill_4 : decode cX0_fill 4 = .ok (.iconst 0, 1) := by decide +kernel
theorem dX0_fill_5 : decode cX0_fill 5 = .ok (.invokestatic 15, 3) := by decide +kernel
theorem dX0_fill_8 : decode cX0_fill 8 = .ok (.istore 5, 2) := by decide +kernel
theorem dX0_fill_10 : decode cX0_fill 10 = .ok (.iload 5, 2) := by decide +kernel
theorem dX0_fill_12 : decode cX0_fill 12 = .ok (.iload_n 2, 1) := by decide +kernel
theorem dX0_fill_13 : decode cX0_fill 13 = .ok (.if_icmp .gt 37, 3) := by decide +kernel
theorem dX0_fill_16 : decode cX0_fill 16 = .ok (.iload 5, 2) := by decide +kernel
theorem dX0_fill_18 : decode cX0_fill 18 = .ok (.sipush 201, 3) := by decide +kernel
theorem dX0_fill_21 : decode cX0_fill 21 = .ok (.if_icmp .ge 29, 3) := by decide +kernel
theorem dX0_fill_24 : decode cX0_fill 24 = .ok (.aload_n 0, 1) := by decide +kernel
theorem dX0_fill_25 : decode cX0_fill 25 = .ok (.iload 5, 2) := by decide +kernel
theorem dX0_fill_27 : decode cX0_fill 27 = .ok (.invokevirtual 21, 3) := by decide +kernel
theorem dX0_fill_30 : decode cX0_fill 30 = .ok (.iload_n 3, 1) := by decide +kernel
theorem dX0_fill_31 : decode cX0_fill 31 = .ok (.if_icmp .eq 13, 3) := by decide +kernel
theorem dX0_fill_34 : decode cX0_fill 34 = .ok (.aload_n 0, 1) := by decide +kernel
theorem dX0_fill_35 : decode cX0_fill 35 = .ok (.iload 5, 2) := by decide +kernel
theorem dX0_fill_37 : decode cX0_fill 37 = .ok (.iload_n 3, 1) := by decide +kernel
theorem dX0_fill_38 : decode cX0_fill 38 = .ok (.invokevirtual 25, 3) := by decide +kernel
theorem dX0_fill_41 : decode cX0_fill 41 = .ok (.iinc 4 1, 3) := by decide +kernel
theorem dX0_fill_44 : decode cX0_fill 44 = .ok (.iinc 5 1, 3) := by decide +kernel
theorem dX0_fill_47 : decode cX0_fill 47 = .ok (.goto (-37), 3) := by decide +kernel
theorem dX0_fill_50 : decode cX0_fill 50 = .ok (.iload 4, 2) := by decide +kernel
theorem dX0_fill_52 : decode cX0_fill 52 = .ok (.ireturn, 1) := by decide +kernel
set_option maxRecDepth 20000 in
theorem ggX0_copyFrom_X0_holds : GoodIn wsX0_copyFrom wsX0_holds := goodIn_r _ [5, 6, 11] (by decide +kernel) (by decide +kernel)
set_option maxRecDepth 20000 in
theorem gX0_copyFrom_X0_holds : GoodIn wsX0_copyFrom (wsV RX0 21 RX0 yX0_holds wsX0_holds) := goodIn_app (goodIn_of _ (by decide +kernel)) ggX0_copyFrom_X0_holds
set_option maxRecDepth 20000 in
theorem ggX0_copyFrom_X0_write : GoodIn wsX0_copyFrom wsX0_write := goodIn_r _ [10, 6, 11] (by decide +kernel) (by decide +kernel)
set_option maxRecDepth 20000 in
theorem gX0_copyFrom_X0_write : GoodIn wsX0_copyFrom (wsV RX0 25 RX0 yX0_write wsX0_write) := goodIn_app (goodIn_of _ (by decide +kernel)) ggX0_copyFrom_X0_write
theorem dX0_copyFrom_0 : decode cX0_copyFrom 0 = .ok (.iconst 0, 1) := by decide +kernel
theorem dX0_copyFrom_1 : decode cX0_copyFrom 1 = .ok (.istore_n 2, 1) := by decide +kernel
theorem dX0_copyFrom_2 : decode cX0_copyFrom 2 = .ok (.iload_n 2, 1) := by decide +kernel
theorem dX0_copyFrom_3 : decode cX0_copyFrom 3 = .ok (.sipush 201, 3) := by decide +kernel
theorem dX0_copyFrom_6 : decode cX0_copyFrom 6 = .ok (.if_icmp .ge 19, 3) := by decide +kernel
theorem dX0_copyFrom_9 : decode cX0_copyFrom 9 = .ok (.aload_n 0, 1) := by decide +kernel
theorem dX0_copyFrom_10 : decode cX0_copyFrom 10 = .ok (.iload_n 2, 1) := by decide +kernel
theorem dX0_copyFrom_11 : decode cX0_copyFrom 11 = .ok (.aload_n 1, 1) := by decide +kernel
theorem dX0_copyFrom_12 : decode cX0_copyFrom 12 = .ok (.iload_n 2, 1) := by decide +kernel
theorem dX0_copyFrom_13 : decode cX0_copyFrom 13 = .ok (.invokevirtual 21, 3) := by decide +kernel
theorem dX0_copyFrom_16 : decode cX0_copyFrom 16 = .ok (.invokevirtual 25, 3) := by decide +kernel
theorem dX0_copyFrom_19 : decode cX0_copyFrom 19 = .ok (.iinc 2 1, 3) := by decide +kernel
theorem dX0_copyFrom_22 : decode cX0_copyFrom 22 = .ok (.goto (-20), 3) := by decide +kernel
theorem dX0_copyFrom_25 : decode cX0_copyFrom 25 = .ok (.return_, 1) := by decide +kernel
set_option maxRecDepth 20000 in
theorem ggX0_count_X0_holds : GoodIn wsX0_count wsX0_holds := goodIn_r _ [5, 6, 7] (by decide +kernel) (by decide +kernel)
set_option maxRecDepth 20000 in
theorem gX0_count_X0_holds : GoodIn wsX0_count (wsV RX0 21 RX0 yX0_holds wsX0_holds) := goodIn_app (goodIn_of _ (by decide +kernel)) ggX0_count_X0_holds
theorem dX0_count_0 : decode cX0_count 0 = .ok (.iconst 0, 1) := by decide +kernel
theorem dX0_count_1 : decode cX0_count 1 = .ok (.istore_n 1, 1) := by decide +kernel
theorem dX0_count_2 : decode cX0_count 2 = .ok (.iconst 0, 1) := by decide +kernel
theorem dX0_count_3 : decode cX0_count 3 = .ok (.istore_n 2, 1) := by decide +kernel
theorem dX0_count_4 : decode cX0_count 4 = .ok (.iload_n 2, 1) := by decide +kernel
theorem dX0_count_5 : decode cX0_count 5 = .ok (.sipush 201, 3) := by decide +kernel
theorem dX0_count_8 : decode cX0_count 8 = .ok (.if_icmp .ge 20, 3) := by decide +kernel
theorem dX0_count_11 : decode cX0_count 11 = .ok (.aload_n 0, 1) := by decide +kernel
theorem dX0_count_12 : decode cX0_count 12 = .ok (.iload_n 2, 1) := by decide +kernel
theorem dX0_count_13 : decode cX0_count 13 = .ok (.invokevirtual 21, 3) := by decide +kernel
theorem dX0_count_16 : decode cX0_count 16 = .ok (.ifCond .eq 6, 3) := by decide +kernel
theorem dX0_count_19 : decode cX0_count 19 = .ok (.iinc 1 1, 3) := by decide +kernel
theorem dX0_count_22 : decode cX0_count 22 = .ok (.iinc 2 1, 3) := by decide +kernel
theorem dX0_count_25 : decode cX0_count 25 = .ok (.goto (-21), 3) := by decide +kernel
theorem dX0_count_28 : decode cX0_count 28 = .ok (.iload_n 1, 1) := by decide +kernel
theorem dX0_count_29 : decode cX0_count 29 = .ok (.ireturn, 1) := by decide +kernel
set_option maxRecDepth 20000 in
theorem ggX0_length_X0_holds : GoodIn wsX0_length wsX0_holds := goodIn_r _ [5, 6, 7] (by decide +kernel) (by decide +kernel)
set_option maxRecDepth 20000 in
theorem gX0_length_X0_holds : GoodIn wsX0_length (wsV RX0 21 RX0 yX0_holds wsX0_holds) := goodIn_app (goodIn_of _ (by decide +kernel)) ggX0_length_X0_holds
theorem dX0_length_0 : decode cX0_length 0 = .ok (.iconst 0, 1) := by decide +kernel
theorem dX0_length_1 : decode cX0_length 1 = .ok (.istore_n 1, 1) := by decide +kernel
theorem dX0_length_2 : decode cX0_length 2 = .ok (.iconst 1, 1) := by decide +kernel
theorem dX0_length_3 : decode cX0_length 3 = .ok (.istore_n 2, 1) := by decide +kernel
theorem dX0_length_4 : decode cX0_length 4 = .ok (.iload_n 2, 1) := by decide +kernel
theorem dX0_length_5 : decode cX0_length 5 = .ok (.sipush 201, 3) := by decide +kernel
theorem dX0_length_8 : decode cX0_length 8 = .ok (.if_icmp .ge 20, 3) := by decide +kernel
theorem dX0_length_11 : decode cX0_length 11 = .ok (.aload_n 0, 1) := by decide +kernel
theorem dX0_length_12 : decode cX0_length 12 = .ok (.iload_n 2, 1) := by decide +kernel
theorem dX0_length_13 : decode cX0_length 13 = .ok (.invokevirtual 21, 3) := by decide +kernel
theorem dX0_length_16 : decode cX0_length 16 = .ok (.ifCond .eq 6, 3) := by decide +kernel
theorem dX0_length_19 : decode cX0_length 19 = .ok (.iinc 1 1, 3) := by decide +kernel
theorem dX0_length_22 : decode cX0_length 22 = .ok (.iinc 2 2, 3) := by decide +kernel
theorem dX0_length_25 : decode cX0_length 25 = .ok (.goto (-21), 3) := by decide +kernel
theorem dX0_length_28 : decode cX0_length 28 = .ok (.iload_n 1, 1) := by decide +kernel
theorem dX0_length_29 : decode cX0_length 29 = .ok (.ireturn, 1) := by decide +kernel
set_option maxRecDepth 20000 in
theorem ggX0_isInside_X0_holds : GoodIn wsX0_isInside wsX0_holds := goodIn_r _ [5, 6, 7] (by decide +kernel) (by decide +kernel)
set_option maxRecDepth 20000 in
theorem gX0_isInside_X0_holds : GoodIn wsX0_isInside (wsV RX0 21 RX0 yX0_holds wsX0_holds) := goodIn_app (goodIn_of _ (by decide +kernel)) ggX0_isInside_X0_holds
theorem dX0_isInside_0 : decode cX0_isInside 0 = .ok (.iconst 0, 1) := by decide +kernel
theorem dX0_isInside_1 : decode cX0_isInside 1 = .ok (.istore_n 2, 1) := by decide +kernel
theorem dX0_isInside_2 : decode cX0_isInside 2 = .ok (.iload_n 2, 1) := by decide +kernel
theorem dX0_isInside_3 : decode cX0_isInside 3 = .ok (.sipush 201, 3) := by decide +kernel
theorem dX0_isInside_6 : decode cX0_isInside 6 = .ok (.if_icmp .ge 27, 3) := by decide +kernel
theorem dX0_isInside_9 : decode cX0_isInside 9 = .ok (.aload_n 0, 1) := by decide +kernel
theorem dX0_isInside_10 : decode cX0_isInside 10 = .ok (.iload_n 2, 1) := by decide +kernel
theorem dX0_isInside_11 : decode cX0_isInside 11 = .ok (.invokevirtual 21, 3) := by decide +kernel
theorem dX0_isInside_14 : decode cX0_isInside 14 = .ok (.ifCond .eq 13, 3) := by decide +kernel
theorem dX0_isInside_17 : decode cX0_isInside 17 = .ok (.aload_n 1, 1) := by decide +kernel
theorem dX0_isInside_18 : decode cX0_isInside 18 = .ok (.iload_n 2, 1) := by decide +kernel
theorem dX0_isInside_19 : decode cX0_isInside 19 = .ok (.invokevirtual 21, 3) := by decide +kernel
theorem dX0_isInside_22 : decode cX0_isInside 22 = .ok (.ifCond .ne 5, 3) := by decide +kernel
theorem dX0_isInside_25 : decode cX0_isInside 25 = .ok (.iconst 0, 1) := by decide +kernel
theorem dX0_isInside_26 : decode cX0_isInside 26 = .ok (.ireturn, 1) := by decide +kernel
theorem dX0_isInside_27 : decode cX0_isInside 27 = .ok (.iinc 2 1, 3) := by decide +kernel
theorem dX0_isInside_30 : decode cX0_isInside 30 = .ok (.goto (-28), 3) := by decide +kernel
theorem dX0_isInside_33 : decode cX0_isInside 33 = .ok (.iconst 1, 1) := by decide +kernel
theorem dX0_isInside_34 : decode cX0_isInside 34 = .ok (.ireturn, 1) := by decide +kernel
set_option maxRecDepth 20000 in
theorem ggX0_firstOfRun_X0_holds : GoodIn wsX0_firstOfRun wsX0_holds := goodIn_r _ [5, 6, 7] (by decide +kernel) (by decide +kernel)
set_option maxRecDepth 20000 in
theorem gX0_firstOfRun_X0_holds : GoodIn wsX0_firstOfRun (wsV RX0 21 RX0 yX0_holds wsX0_holds) := goodIn_app (goodIn_of _ (by decide +kernel)) ggX0_firstOfRun_X0_holds
theorem dX0_firstOfRun_0 : decode cX0_firstOfRun 0 = .ok (.iload_n 1, 1) := by decide +kernel
theorem dX0_firstOfRun_1 : decode cX0_firstOfRun 1 = .ok (.istore_n 2, 1) := by decide +kernel
theorem dX0_firstOfRun_2 : decode cX0_firstOfRun 2 = .ok (.iload_n 2, 1) := by decide +kernel
theorem dX0_firstOfRun_3 : decode cX0_firstOfRun 3 = .ok (.ifCond .le 19, 3) := by decide +kernel
theorem dX0_firstOfRun_6 : decode cX0_firstOfRun 6 = .ok (.aload_n 0, 1) := by decide +kernel
theorem dX0_firstOfRun_7 : decode cX0_firstOfRun 7 = .ok (.iload_n 2, 1) := by decide +kernel
theorem dX0_firstOfRun_8 : decode cX0_firstOfRun 8 = .ok (.iconst 1, 1) := by decide +kernel
theorem dX0_firstOfRun_9 : decode cX0_firstOfRun 9 = .ok (.isub, 1) := by decide +kernel
theorem dX0_firstOfRun_10 : decode cX0_firstOfRun 10 = .ok (.invokevirtual 21, 3) := by decide +kernel
theorem dX0_firstOfRun_13 : decode cX0_firstOfRun 13 = .ok (.ifCond .eq 9, 3) := by decide +kernel
theorem dX0_firstOfRun_16 : decode cX0_firstOfRun 16 = .ok (.iinc 2 (-1), 3) := by decide +kernel
theorem dX0_firstOfRun_19 : decode cX0_firstOfRun 19 = .ok (.goto (-17), 3) := by decide +kernel
theorem dX0_firstOfRun_22 : decode cX0_firstOfRun 22 = .ok (.iload_n 2, 1) := by decide +kernel
theorem dX0_firstOfRun_23 : decode cX0_firstOfRun 23 = .ok (.ireturn, 1) := by decide +kernel
set_option maxRecDepth 20000 in
theorem ggX0_lastOfRun_X0_holds : GoodIn wsX0_lastOfRun wsX0_holds := goodIn_r _ [5, 6, 7] (by decide +kernel) (by decide +kernel)
set_option maxRecDepth 20000 in
theorem gX0_lastOfRun_X0_holds : GoodIn wsX0_lastOfRun (wsV RX0 21 RX0 yX0_holds wsX0_holds) := goodIn_app (goodIn_of _ (by decide +kernel)) ggX0_lastOfRun_X0_holds
theorem dX0_lastOfRun_0 : decode cX0_lastOfRun 0 = .ok (.iload_n 1, 1) := by decide +kernel
theorem dX0_lastOfRun_1 : decode cX0_lastOfRun 1 = .ok (.istore_n 2, 1) := by decide +kernel
theorem dX0_lastOfRun_2 : decode cX0_lastOfRun 2 = .ok (.iload_n 2, 1) := by decide +kernel
theorem dX0_lastOfRun_3 : decode cX0_lastOfRun 3 = .ok (.sipush 200, 3) := by decide +kernel
theorem dX0_lastOfRun_6 : decode cX0_lastOfRun 6 = .ok (.if_icmp .ge 19, 3) := by decide +kernel
theorem dX0_lastOfRun_9 : decode cX0_lastOfRun 9 = .ok (.aload_n 0, 1) := by decide +kernel
theorem dX0_lastOfRun_10 : decode cX0_lastOfRun 10 = .ok (.iload_n 2, 1) := by decide +kernel
theorem dX0_lastOfRun_11 : decode cX0_lastOfRun 11 = .ok (.iconst 1, 1) := by decide +kernel
theorem dX0_lastOfRun_12 : decode cX0_lastOfRun 12 = .ok (.iadd, 1) := by decide +kernel
theorem dX0_lastOfRun_13 : decode cX0_lastOfRun 13 = .ok (.invokevirtual 21, 3) := by decide +kernel
theorem dX0_lastOfRun_16 : decode cX0_lastOfRun 16 = .ok (.ifCond .eq 9, 3) := by decide +kernel
theorem dX0_lastOfRun_19 : decode cX0_lastOfRun 19 = .ok (.iinc 2 1, 3) := by decide +kernel
theorem dX0_lastOfRun_22 : decode cX0_lastOfRun 22 = .ok (.goto (-20), 3) := by decide +kernel
theorem dX0_lastOfRun_25 : decode cX0_lastOfRun 25 = .ok (.iload_n 2, 1) := by decide +kernel
theorem dX0_lastOfRun_26 : decode cX0_lastOfRun 26 = .ok (.ireturn, 1) := by decide +kernel
set_option maxRecDepth 20000 in
theorem ggX0_invert_X0_holds : GoodIn wsX0_invert wsX0_holds := goodIn_r _ [5, 6, 11] (by decide +kernel) (by decide +kernel)
set_option maxRecDepth 20000 in
theorem gX0_invert_X0_holds : GoodIn wsX0_invert (wsV RX0 21 RX0 yX0_holds wsX0_holds) := goodIn_app (goodIn_of _ (by decide +kernel)) ggX0_invert_X0_holds
set_option maxRecDepth 20000 in
theorem ggX0_invert_X0_write : GoodIn wsX0_invert wsX0_write := goodIn_r _ [10, 6, 11] (by decide +kernel) (by decide +kernel)
set_option maxRecDepth 20000 in
theorem gX0_invert_X0_write : GoodIn wsX0_invert (wsV RX0 25 RX0 yX0_write wsX0_write) := goodIn_app (goodIn_of _ (by decide +kernel)) ggX0_invert_X0_write
theorem dX0_invert_0 : decode cX0_invert 0 = .ok (.iconst 0, 1) := by decide +kernel
theorem dX0_invert_1 : decode cX0_invert 1 = .ok (.istore_n 1, 1) := by decide +kernel
theorem dX0_invert_2 : decode cX0_invert 2 = .ok (.iload_n 1, 1) := by decide +kernel
theorem dX0_invert_3 : decode cX0_invert 3 = .ok (.sipush 201, 3) := by decide +kernel
theorem dX0_invert_6 : decode cX0_invert 6 = .ok (.if_icmp .ge 27, 3) := by decide +kernel
theorem dX0_invert_9 : decode cX0_invert 9 = .ok (.aload_n 0, 1) := by decide +kernel
theorem dX0_invert_10 : decode cX0_invert 10 = .ok (.iload_n 1, 1) := by decide +kernel
theorem dX0_invert_11 : decode cX0_invert 11 = .ok (.aload_n 0, 1) := by decide +kernel
theorem dX0_invert_12 : decode cX0_invert 12 = .ok (.iload_n 1, 1) := by decide +kernel
theorem dX0_invert_13 : decode cX0_invert 13 = .ok (.invokevirtual 21, 3) := by decide +kernel
theorem dX0_invert_16 : decode cX0_invert 16 = .ok (.ifCond .ne 7, 3) := by decide +kernel
theorem dX0_invert_19 : decode cX0_invert 19 = .ok (.iconst 1, 1) := by decide +kernel
theorem dX0_invert_20 : decode cX0_invert 20 = .ok (.goto 4, 3) := by decide +kernel
theorem dX0_invert_23 : decode cX0_invert 23 = .ok (.iconst 0, 1) := by decide +kernel
theorem dX0_invert_24 : decode cX0_invert 24 = .ok (.invokevirtual 25, 3) := by decide +kernel
theorem dX0_invert_27 : decode cX0_invert 27 = .ok (.iinc 1 1, 3) := by decide +kernel
theorem dX0_invert_30 : decode cX0_invert 30 = .ok (.goto (-28), 3) := by decide +kernel
theorem dX0_invert_33 : decode cX0_invert 33 = .ok (.return_, 1) := by decide +kernel
set_option maxRecDepth 20000 in
theorem ggX0_dropEdgePoints_X0_holds : GoodIn wsX0_dropEdgePoints wsX0_holds := goodIn_r _ [5, 6, 11] (by decide +kernel) (by decide +kernel)
set_option maxRecDepth 20000 in
theorem gX0_dropEdgePoints_X0_holds : GoodIn wsX0_dropEdgePoints (wsV RX0 21 RX0 yX0_holds wsX0_holds) := goodIn_app (goodIn_of _ (by decide +kernel)) ggX0_dropEdgePoints_X0_holds
set_option maxRecDepth 20000 in
theorem ggX0_dropEdgePoints_X0_write : GoodIn wsX0_dropEdgePoints wsX0_write := goodIn_r _ [10, 6, 11] (by decide +kernel) (by decide +kernel)
set_option maxRecDepth 20000 in
theorem gX0_dropEdgePoints_X0_write : GoodIn wsX0_dropEdgePoints (wsV RX0 25 RX0 yX0_write wsX0_write) := goodIn_app (goodIn_of _ (by decide +kernel)) ggX0_dropEdgePoints_X0_write
theorem dX0_dropEdgePoints_0 : decode cX0_dropEdgePoints 0 = .ok (.iconst 0, 1) := by decide +kernel
theorem dX0_dropEdgePoints_1 : decode cX0_dropEdgePoints 1 = .ok (.istore_n 1, 1) := by decide +kernel
theorem dX0_dropEdgePoints_2 : decode cX0_dropEdgePoints 2 = .ok (.iload_n 1, 1) := by decide +kernel
theorem dX0_dropEdgePoints_3 : decode cX0_dropEdgePoints 3 = .ok (.sipush 201, 3) := by decide +kernel
theorem dX0_dropEdgePoints_6 : decode cX0_dropEdgePoints 6 = .ok (.if_icmp .ge 66, 3) := by decide +kernel
theorem dX0_dropEdgePoints_9 : decode cX0_dropEdgePoints 9 = .ok (.iload_n 1, 1) := by decide +kernel
theorem dX0_dropEdgePoints_10 : decode cX0_dropEdgePoints 10 = .ok (.ifCond .eq 13, 3) := by decide +kernel
theorem dX0_dropEdgePoints_13 : decode cX0_dropEdgePoints 13 = .ok (.aload_n 0, 1) := by decide +kernel
theorem dX0_dropEdgePoints_14 : decode cX0_dropEdgePoints 14 = .ok (.iload_n 1, 1) := by decide +kernel
theorem dX0_dropEdgePoints_15 : decode cX0_dropEdgePoints 15 = .ok (.iconst 1, 1) := by decide +kernel
theorem dX0_dropEdgePoints_16 : decode cX0_dropEdgePoints 16 = .ok (.isub, 1) := by decide +kernel
theorem dX0_dropEdgePoints_17 : decode cX0_dropEdgePoints 17 = .ok (.invokevirtual 21, 3) := by decide +kernel
theorem dX0_dropEdgePoints_20 : decode cX0_dropEdgePoints 20 = .ok (.ifCond .eq 7, 3) := by decide +kernel
theorem dX0_dropEdgePoints_23 : decode cX0_dropEdgePoints 23 = .ok (.iconst 1, 1) := by decide +kernel
theorem dX0_dropEdgePoints_24 : decode cX0_dropEdgePoints 24 = .ok (.goto 4, 3) := by decide +kernel
theorem dX0_dropEdgePoints_27 : decode cX0_dropEdgePoints 27 = .ok (.iconst 0, 1) := by decide +kernel
theorem dX0_dropEdgePoints_28 : decode cX0_dropEdgePoints 28 = .ok (.istore_n 2, 1) := by decide +kernel
theorem dX0_dropEdgePoints_29 : decode cX0_dropEdgePoints 29 = .ok (.iload_n 1, 1) := by decide +kernel
theorem dX0_dropEdgePoints_30 : decode cX0_dropEdgePoints 30 = .ok (.sipush 200, 3) := by decide +kernel
theorem dX0_dropEdgePoints_33 : decode cX0_dropEdgePoints 33 = .ok (.if_icmp .eq 13, 3) := by decide +kernel
theorem dX0_dropEdgePoints_36 : decode cX0_dropEdgePoints 36 = .ok (.aload_n 0, 1) := by decide +kernel
theorem dX0_dropEdgePoints_37 : decode cX0_dropEdgePoints 37 = .ok (.iload_n 1, 1) := by decide +kernel
theorem dX0_dropEdgePoints_38 : decode cX0_dropEdgePoints 38 = .ok (.iconst 1, 1) := by decide +kernel
theorem dX0_dropEdgePoints_39 : decode cX0_dropEdgePoints 39 = .ok (.iadd, 1) := by decide +kernel
theorem dX0_dropEdgePoints_40 : decode cX0_dropEdgePoints 40 = .ok (.invokevirtual 21, 3) := by decide +kernel
theorem dX0_dropEdgePoints_43 : decode cX0_dropEdgePoints 43 = .ok (.ifCond .eq 7, 3) := by decide +kernel
theorem dX0_dropEdgePoints_46 : decode cX0_dropEdgePoints 46 = .ok (.iconst 1, 1) := by decide +kernel
theorem dX0_dropEdgePoints_47 : decode cX0_dropEdgePoints 47 = .ok (.goto 4, 3) := by decide +kernel
theorem dX0_dropEdgePoints_50 : decode cX0_dropEdgePoints 50 = .ok (.iconst 0, 1) := by decide +kernel
theorem dX0_dropEdgePoints_51 : decode cX0_dropEdgePoints 51 = .ok (.istore_n 3, 1) := by decide +kernel
theorem dX0_dropEdgePoints_52 : decode cX0_dropEdgePoints 52 = .ok (.iload_n 2, 1) := by decide +kernel
theorem dX0_dropEdgePoints_53 : decode cX0_dropEdgePoints 53 = .ok (.ifCond .eq 7, 3) := by decide +kernel
theorem dX0_dropEdgePoints_56 : decode cX0_dropEdgePoints 56 = .ok (.iload_n 3, 1) := by decide +kernel
theorem dX0_dropEdgePoints_57 : decode cX0_dropEdgePoints 57 = .ok (.ifCond .ne 9, 3) := by decide +kernel
theorem dX0_dropEdgePoints_60 : decode cX0_dropEdgePoints 60 = .ok (.aload_n 0, 1) := by decide +kernel
theorem dX0_dropEdgePoints_61 : decode cX0_dropEdgePoints 61 = .ok (.iload_n 1, 1) := by decide +kernel
theorem dX0_dropEdgePoints_62 : decode cX0_dropEdgePoints 62 = .ok (.iconst 0, 1) := by decide +kernel
theorem dX0_dropEdgePoints_63 : decode cX0_dropEdgePoints 63 = .ok (.invokevirtual 25, 3) := by decide +kernel
theorem dX0_dropEdgePoints_66 : decode cX0_dropEdgePoints 66 = .ok (.iinc 1 2, 3) := by decide +kernel
theorem dX0_dropEdgePoints_69 : decode cX0_dropEdgePoints 69 = .ok (.goto (-67), 3) := by decide +kernel
theorem dX0_dropEdgePoints_72 : decode cX0_dropEdgePoints 72 = .ok (.return_, 1) := by decide +kernel
set_option maxRecDepth 20000 in
theorem ggX0_addEdgePoints_X0_holds : GoodIn wsX0_addEdgePoints wsX0_holds := goodIn_r _ [5, 6, 11] (by decide +kernel) (by decide +kernel)
set_option maxRecDepth 20000 in
theorem gX0_addEdgePoints_X0_holds : GoodIn wsX0_addEdgePoints (wsV RX0 21 RX0 yX0_holds wsX0_holds) := goodIn_app (goodIn_of _ (by decide +kernel)) ggX0_addEdgePoints_X0_holds
set_option maxRecDepth 20000 in
theorem ggX0_addEdgePoints_X0_write : GoodIn wsX0_addEdgePoints wsX0_write := goodIn_r _ [10, 6, 11] (by decide +kernel) (by decide +kernel)
set_option maxRecDepth 20000 in
theorem gX0_addEdgePoints_X0_write : GoodIn wsX0_addEdgePoints (wsV RX0 25 RX0 yX0_write wsX0_write) := goodIn_app (goodIn_of _ (by decide +kernel)) ggX0_addEdgePoints_X0_write
theorem dX0_addEdgePoints_0 : decode cX0_addEdgePoints 0 = .ok (.iconst 0, 1) := by decide +kernel
theorem dX0_addEdgePoints_1 : decode cX0_addEdgePoints 1 = .ok (.istore_n 1, 1) := by decide +kernel
theorem dX0_addEdgePoints_2 : decode cX0_addEdgePoints 2 = .ok (.iload_n 1, 1) := by decide +kernel
theorem dX0_addEdgePoints_3 : decode cX0_addEdgePoints 3 = .ok (.sipush 201, 3) := by decide +kernel
theorem dX0_addEdgePoints_6 : decode cX0_addEdgePoints 6 = .ok (.if_icmp .ge 35, 3) := by decide +kernel
theorem dX0_addEdgePoints_9 : decode cX0_addEdgePoints 9 = .ok (.aload_n 0, 1) := by decide +kernel
theorem dX0_addEdgePoints_10 : decode cX0_addEdgePoints 10 = .ok (.iload_n 1, 1) := by decide +kernel
theorem dX0_addEdgePoints_11 : decode cX0_addEdgePoints 11 = .ok (.iconst 1, 1) := by decide +kernel
theorem dX0_addEdgePoints_12 : decode cX0_addEdgePoints 12 = .ok (.isub, 1) := by decide +kernel
theorem dX0_addEdgePoints_13 : decode cX0_addEdgePoints 13 = .ok (.invokevirtual 21, 3) := by decide +kernel
theorem dX0_addEdgePoints_16 : decode cX0_addEdgePoints 16 = .ok (.ifCond .ne 13, 3) := by decide +kernel
theorem dX0_addEdgePoints_19 : decode cX0_addEdgePoints 19 = .ok (.aload_n 0, 1) := by decide +kernel
theorem dX0_addEdgePoints_20 : decode cX0_addEdgePoints 20 = .ok (.iload_n 1, 1) := by decide +kernel
theorem dX0_addEdgePoints_21 : decode cX0_addEdgePoints 21 = .ok (.iconst 1, 1) := by decide +kernel
theorem dX0_addEdgePoints_22 : decode cX0_addEdgePoints 22 = .ok (.iadd, 1) := by decide +kernel
theorem dX0_addEdgePoints_23 : decode cX0_addEdgePoints 23 = .ok (.invokevirtual 21, 3) := by decide +kernel
theorem dX0_addEdgePoints_26 : decode cX0_addEdgePoints 26 = .ok (.ifCond .eq 9, 3) := by decide +kernel
theorem dX0_addEdgePoints_29 : decode cX0_addEdgePoints 29 = .ok (.aload_n 0, 1) := by decide +kernel
theorem dX0_addEdgePoints_30 : decode cX0_addEdgePoints 30 = .ok (.iload_n 1, 1) := by decide +kernel
theorem dX0_addEdgePoints_31 : decode cX0_addEdgePoints 31 = .ok (.iconst 1, 1) := by decide +kernel
theorem dX0_addEdgePoints_32 : decode cX0_addEdgePoints 32 = .ok (.invokevirtual 25, 3) := by decide +kernel
theorem dX0_addEdgePoints_35 : decode cX0_addEdgePoints 35 = .ok (.iinc 1 2, 3) := by decide +kernel
theorem dX0_addEdgePoints_38 : decode cX0_addEdgePoints 38 = .ok (.goto (-36), 3) := by decide +kernel
theorem dX0_addEdgePoints_41 : decode cX0_addEdgePoints 41 = .ok (.return_, 1) := by decide +kernel
set_option maxRecDepth 20000 in
theorem ggX0_keepLonePoints_X0_holds : GoodIn wsX0_keepLonePoints wsX0_holds := goodIn_r _ [5, 6, 11] (by decide +kernel) (by decide +kernel)
set_option maxRecDepth 20000 in
theorem gX0_keepLonePoints_X0_holds : GoodIn wsX0_keepLonePoints (wsV RX0 21 RX0 yX0_holds wsX0_holds) := goodIn_app (goodIn_of _ (by decide +kernel)) ggX0_keepLonePoints_X0_holds
set_option maxRecDepth 20000 in
theorem ggX0_keepLonePoints_X0_write : GoodIn wsX0_keepLonePoints wsX0_write := goodIn_r _ [10, 6, 11] (by decide +kernel) (by decide +kernel)
set_option maxRecDepth 20000 in
theorem gX0_keepLonePoints_X0_write : GoodIn wsX0_keepLonePoints (wsV RX0 25 RX0 yX0_write wsX0_write) := goodIn_app (goodIn_of _ (by decide +kernel)) ggX0_keepLonePoints_X0_write
theorem dX0_keepLonePoints_0 : decode cX0_keepLonePoints 0 = .ok (.iconst 0, 1) := by decide +kernel
theorem dX0_keepLonePoints_1 : decode cX0_keepLonePoints 1 = .ok (.istore_n 1, 1) := by decide +kernel
theorem dX0_keepLonePoints_2 : decode cX0_keepLonePoints 2 = .ok (.iload_n 1, 1) := by decide +kernel
theorem dX0_keepLonePoints_3 : decode cX0_keepLonePoints 3 = .ok (.sipush 201, 3) := by decide +kernel
theorem dX0_keepLonePoints_6 : decode cX0_keepLonePoints 6 = .ok (.if_icmp .ge 35, 3) := by decide +kernel
theorem dX0_keepLonePoints_9 : decode cX0_keepLonePoints 9 = .ok (.aload_n 0, 1) := by decide +kernel
theorem dX0_keepLonePoints_10 : decode cX0_keepLonePoints 10 = .ok (.iload_n 1, 1) := by decide +kernel
theorem dX0_keepLonePoints_11 : decode cX0_keepLonePoints 11 = .ok (.iconst 1, 1) := by decide +kernel
theorem dX0_keepLonePoints_12 : decode cX0_keepLonePoints 12 = .ok (.isub, 1) := by decide +kernel
theorem dX0_keepLonePoints_13 : decode cX0_keepLonePoints 13 = .ok (.invokevirtual 21, 3) := by decide +kernel
theorem dX0_keepLonePoints_16 : decode cX0_keepLonePoints 16 = .ok (.ifCond .ne 13, 3) := by decide +kernel
theorem dX0_keepLonePoints_19 : decode cX0_keepLonePoints 19 = .ok (.aload_n 0, 1) := by decide +kernel
theorem dX0_keepLonePoints_20 : decode cX0_keepLonePoints 20 = .ok (.iload_n 1, 1) := by decide +kernel
theorem dX0_keepLonePoints_21 : decode cX0_keepLonePoints 21 = .ok (.iconst 1, 1) := by decide +kernel
theorem dX0_keepLonePoints_22 : decode cX0_keepLonePoints 22 = .ok (.iadd, 1) := by decide +kernel
theorem dX0_keepLonePoints_23 : decode cX0_keepLonePoints 23 = .ok (.invokevirtual 21, 3) := by decide +kernel
theorem dX0_keepLonePoints_26 : decode cX0_keepLonePoints 26 = .ok (.ifCond .eq 9, 3) := by decide +kernel
theorem dX0_keepLonePoints_29 : decode cX0_keepLonePoints 29 = .ok (.aload_n 0, 1) := by decide +kernel
theorem dX0_keepLonePoints_30 : decode cX0_keepLonePoints 30 = .ok (.iload_n 1, 1) := by decide +kernel
theorem dX0_keepLonePoints_31 : decode cX0_keepLonePoints 31 = .ok (.iconst 0, 1) := by decide +kernel
theorem dX0_keepLonePoints_32 : decode cX0_keepLonePoints 32 = .ok (.invokevirtual 25, 3) := by decide +kernel
theorem dX0_keepLonePoints_35 : decode cX0_keepLonePoints 35 = .ok (.iinc 1 2, 3) := by decide +kernel
theorem dX0_keepLonePoints_38 : decode cX0_keepLonePoints 38 = .ok (.goto (-36), 3) := by decide +kernel
theorem dX0_keepLonePoints_41 : decode cX0_keepLonePoints 41 = .ok (.iconst 1, 1) := by decide +kernel
theorem dX0_keepLonePoints_42 : decode cX0_keepLonePoints 42 = .ok (.istore_n 1, 1) := by decide +kernel
theorem dX0_keepLonePoints_43 : decode cX0_keepLonePoints 43 = .ok (.iload_n 1, 1) := by decide +kernel
theorem dX0_keepLonePoints_44 : decode cX0_keepLonePoints 44 = .ok (.sipush 201, 3) := by decide +kernel
theorem dX0_keepLonePoints_47 : decode cX0_keepLonePoints 47 = .ok (.if_icmp .ge 15, 3) := by decide +kernel
theorem dX0_keepLonePoints_50 : decode cX0_keepLonePoints 50 = .ok (.aload_n 0, 1) := by decide +kernel
theorem dX0_keepLonePoints_51 : decode cX0_keepLonePoints 51 = .ok (.iload_n 1, 1) := by decide +kernel
theorem dX0_keepLonePoints_52 : decode cX0_keepLonePoints 52 = .ok (.iconst 0, 1) := by decide +kernel
theorem dX0_keepLonePoints_53 : decode cX0_keepLonePoints 53 = .ok (.invokevirtual 25, 3) := by decide +kernel
theorem dX0_keepLonePoints_56 : decode cX0_keepLonePoints 56 = .ok (.iinc 1 2, 3) := by decide +kernel
theorem dX0_keepLonePoints_59 : decode cX0_keepLonePoints 59 = .ok (.goto (-16), 3) := by decide +kernel
theorem dX0_keepLonePoints_62 : decode cX0_keepLonePoints 62 = .ok (.return_, 1) := by decide +kernel
set_option maxRecDepth 20000 in
theorem ggX0_mirror_X0_holds : GoodIn wsX0_mirror wsX0_holds := goodIn_r _ [5, 6, 11] (by decide +kernel) (by decide +kernel)
set_option maxRecDepth 20000 in
theorem gX0_mirror_X0_holds : GoodIn wsX0_mirror (wsV RX0 21 RX0 yX0_holds wsX0_holds) := goodIn_app (goodIn_of _ (by decide +kernel)) ggX0_mirror_X0_holds
set_option maxRecDepth 20000 in
theorem ggX0_mirror_X0_write : GoodIn wsX0_mirror wsX0_write := goodIn_r _ [10, 6, 11] (by decide +kernel) (by decide +kernel)
set_option maxRecDepth 20000 in
theorem gX0_mirror_X0_write : GoodIn wsX0_mirror (wsV RX0 25 RX0 yX0_write wsX0_write) := goodIn_app (goodIn_of _ (by decide +kernel)) ggX0_mirror_X0_write
theorem dX0_mirror_0 : decode cX0_mirror 0 = .ok (.iconst 0, 1) := by decide +kernel
theorem dX0_mirror_1 : decode cX0_mirror 1 = .ok (.istore_n 1, 1) := by decide +kernel
theorem dX0_mirror_2 : decode cX0_mirror 2 = .ok (.iload_n 1, 1) := by decide +kernel
theorem dX0_mirror_3 : decode cX0_mirror 3 = .ok (.bipush 100, 2) := by decide +kernel
theorem dX0_mirror_5 : decode cX0_mirror 5 = .ok (.if_icmp .ge 37, 3) := by decide +kernel
theorem dX0_mirror_8 : decode cX0_mirror 8 = .ok (.sipush 200, 3) := by decide +kernel
theorem dX0_mirror_11 : decode cX0_mirror 11 = .ok (.iload_n 1, 1) := by decide +kernel
theorem dX0_mirror_12 : decode cX0_mirror 12 = .ok (.isub, 1) := by decide +kernel
theorem dX0_mirror_13 : decode cX0_mirror 13 = .ok (.istore_n 2, 1) := by decide +kernel
theorem dX0_mirror_14 : decode cX0_mirror 14 = .ok (.aload_n 0, 1) := by decide +kernel
theorem dX0_mirror_15 : decode cX0_mirror 15 = .ok (.iload_n 1, 1) := by decide +kernel
theorem dX0_mirror_16 : decode cX0_mirror 16 = .ok (.invokevirtual 21, 3) := by decide +kernel
theorem dX0_mirror_19 : decode cX0_mirror 19 = .ok (.istore_n 3, 1) := by decide +kernel
theorem dX0_mirror_20 : decode cX0_mirror 20 = .ok (.aload_n 0, 1) := by decide +kernel
theorem dX0_mirror_21 : decode cX0_mirror 21 = .ok (.iload_n 1, 1) := by decide +kernel
theorem dX0_mirror_22 : decode cX0_mirror 22 = .ok (.aload_n 0, 1) := by decide +kernel
theorem dX0_mirror_23 : decode cX0_mirror 23 = .ok (.iload_n 2, 1) := by decide +kernel
theorem dX0_mirror_24 : decode cX0_mirror 24 = .ok (.invokevirtual 21, 3) := by decide +kernel
theorem dX0_mirror_27 : decode cX0_mirror 27 = .ok (.invokevirtual 25, 3) := by decide +kernel
theorem dX0_mirror_30 : decode cX0_mirror 30 = .ok (.aload_n 0, 1) := by decide +kernel
theorem dX0_mirror_31 : decode cX0_mirror 31 = .ok (.iload_n 2, 1) := by decide +kernel
theorem dX0_mirror_32 : decode cX0_mirror 32 = .ok (.iload_n 3, 1) := by decide +kernel
theorem dX0_mirror_33 : decode cX0_mirror 33 = .ok (.invokevirtual 25, 3) := by decide +kernel
theorem dX0_mirror_36 : decode cX0_mirror 36 = .ok (.iinc 1 1, 3) := by decide +kernel
theorem dX0_mirror_39 : decode cX0_mirror 39 = .ok (.goto (-37), 3) := by decide +kernel
theorem dX0_mirror_42 : decode cX0_mirror 42 = .ok (.return_, 1) := by decide +kernel
theorem dX1_init_0 : decode cX1_init 0 = .ok (.aload_n 0, 1) := by decide +kernel
theorem dX1_init_1 : decode cX1_init 1 = .ok (.invokespecial 3, 3) := by decide +kernel
theorem dX1_init_4 : decode cX1_init 4 = .ok (.aload_n 0, 1) := by decide +kernel
theorem dX1_init_5 : decode cX1_init 5 = .ok (.sipush 201, 3) := by decide +kernel
theorem dX1_init_8 : decode cX1_init 8 = .ok (.newarray .int, 2) := by decide +kernel
theorem dX1_init_10 : decode cX1_init 10 = .ok (.putfield 9, 3) := by decide +kernel
theorem dX1_init_13 : decode cX1_init 13 = .ok (.aload_n 0, 1) := by decide +kernel
theorem dX1_init_14 : decode cX1_init 14 = .ok (.sipush 201, 3) := by decide +kernel
theorem dX1_init_17 : decode cX1_init 17 = .ok (.newarray .int, 2) := by decide +kernel
theorem dX1_init_19 : decode cX1_init 19 = .ok (.putfield 15, 3) := by decide +kernel
theorem dX1_init_22 : decode cX1_init 22 = .ok (.aload_n 0, 1) := by decide +kernel
theorem dX1_init_23 : decode cX1_init 23 = .ok (.iconst 0, 1) := by decide +kernel
theorem dX1_init_24 : decode cX1_init 24 = .ok (.putfield 18, 3) := by decide +kernel
theorem dX1_init_27 : decode cX1_init 27 = .ok (.return_, 1) := by decide +kernel
set_option maxRecDepth 20000 in
theorem ggX1_readRuns_X0_holds : GoodIn wsX1_readRuns wsX0_holds := goodIn_r _ [6, 7, 22] (by decide +kernel) (by decide +kernel)
set_option maxRecDepth 20000 in
theorem gX1_readRuns_X0_holds : GoodIn wsX1_readRuns (wsV RX1 22 RX0 yX0_holds wsX0_holds) := goodIn_app (goodIn_of _ (by decide +kernel)) ggX1_readRuns_X0_holds
set_option maxRecDepth 20000 in
theorem ggX1_readRuns_X1_begin : GoodIn wsX1_readRuns wsX1_begin := goodIn_r _ [12, 1, 13, 19, 20, 21] (by decide +kernel) (by decide +kernel)
set_option maxRecDepth 20000 in
theorem gX1_readRuns_X1_begin : GoodIn wsX1_readRuns (wsV RX1 28 RX1 yX1_begin wsX1_begin) := goodIn_app (goodIn_of _ (by decide +kernel)) ggX1_readRuns_X1_begin
set_option maxRecDepth 20000 in
theorem ggX1_readRuns_X1_extend : GoodIn wsX1_readRuns wsX1_extend := goodIn_r _ [17, 1, 18, 19, 20, 21] (by decide +kernel) (by decide +kernel)
set_option maxRecDepth 20000 in
theorem gX1_readRuns_X1_extend : GoodIn wsX1_readRuns (wsV RX1 32 RX1 yX1_extend wsX1_extend) := goodIn_app (goodIn_of _ (by decide +kernel)) ggX1_readRuns_X1_extend
theorem dX1_readRuns_0 : decode cX1_readRuns 0 = .ok (.aload_n 0, 1) := by decide +kernel
theorem dX1_readRuns_1 : decode cX1_readRuns 1 = .ok (.iconst 0, 1) := by decide +kernel
theorem dX1_readRuns_2 : decode cX1_readRuns 2 = .ok (.putfield 18, 3) := by decide +kernel
theorem dX1_readRuns_5 : decode cX1_readRuns 5 = .ok (.iconst 0, 1) := by decide +kernel
theorem dX1_readRuns_6 : decode cX1_readRuns 6 = .ok (.istore_n 3, 1) := by decide +kernel
theorem dX1_readRuns_7 : decode cX1_readRuns 7 = .ok (.iload_n 3, 1) := by decide +kernel
theorem dX1_readRuns_8 : decode cX1_readRuns 8 = .ok (.sipush 201, 3) := by decide +kernel
theorem dX1_readRuns_11 : decode cX1_readRuns 11 = .ok (.if_icmp .ge 43, 3) := by decide +kernel
theorem dX1_readRuns_14 : decode cX1_readRuns 14 = .ok (.aload_n 1, 1) := by decide +kernel
theorem dX1_readRuns_15 : decode cX1_readRuns 15 = .ok (.iload_n 3, 1) := by decide +kernel
theorem dX1_readRuns_16 : decode cX1_readRuns 16 = .ok (.invokevirtual 22, 3) := by decide +kernel
theorem dX1_readRuns_19 : decode cX1_readRuns 19 = .ok (.iload_n 2, 1) := by decide +kernel
theorem dX1_readRuns_20 : decode cX1_readRuns 20 = .ok (.if_icmp .ne 28, 3) := by decide +kernel
theorem dX1_readRuns_23 : decode cX1_readRuns 23 = .ok (.iload_n 3, 1) := by decide +kernel
theorem dX1_readRuns_24 : decode cX1_readRuns 24 = .ok (.ifCond .eq 14, 3) := by decide +kernel
theorem dX1_readRuns_27 : decode cX1_readRuns 27 = .ok (.aload_n 1, 1) := by decide +kernel
theorem dX1_readRuns_28 : decode cX1_readRuns 28 = .ok (.iload_n 3, 1) := by decide +kernel
theorem dX1_readRuns_29 : decode cX1_readRuns 29 = .ok (.iconst 1, 1) := by decide +kernel
theorem dX1_readRuns_30 : decode cX1_readRuns 30 = .ok (.isub, 1) := by decide +kernel
theorem dX1_readRuns_31 : decode cX1_readRuns 31 = .ok (.invokevirtual 22, 3) := by decide +kernel
theorem dX1_readRuns_34 : decode cX1_readRuns 34 = .ok (.iload_n 2, 1) := by decide +kernel
theorem dX1_readRuns_35 : decode cX1_readRuns 35 = .ok (.if_icmp .eq 8, 3) := by decide +kernel
theorem dX1_readRuns_38 : decode cX1_readRuns 38 = .ok (.aload_n 0, 1) := by decide +kernel
theorem dX1_readRuns_39 : decode cX1_readRuns 39 = .ok (.iload_n 3, 1) := by decide +kernel
theorem dX1_readRuns_40 : decode cX1_readRuns 40 = .ok (.invokevirtual 28, 3) := by decide +kernel
theorem dX1_readRuns_43 : decode cX1_readRuns 43 = .ok (.aload_n 0, 1) := by decide +kernel
theorem dX1_readRuns_44 : decode cX1_readRuns 44 = .ok (.iload_n 3, 1) := by decide +kernel
theorem dX1_readRuns_45 : decode cX1_readRuns 45 = .ok (.invokevirtual 32, 3) := by decide +kernel
theorem dX1_readRuns_48 : decode cX1_readRuns 48 = .ok (.iinc 3 1, 3) := by decide +kernel
theorem dX1_readRuns_51 : decode cX1_readRuns 51 = .ok (.goto (-44), 3) := by decide +kernel
theorem dX1_readRuns_54 : decode cX1_readRuns 54 = .ok (.return_, 1) := by decide +kernel
theorem dX1_begin_0 : decode cX1_begin 0 = .ok (.aload_n 0, 1) := by decide +kernel
theorem dX1_begin_1 : decode cX1_begin 1 = .ok (.getfield 18, 3) := by decide +kernel
theorem dX1_begin_4 : decode cX1_begin 4 = .ok (.aload_n 0, 1) := by decide +kernel
theorem dX1_begin_5 : decode cX1_begin 5 = .ok (.getfield 9, 3) := by decide +kernel
theorem dX1_begin_8 : decode cX1_begin 8 = .ok (.arraylength, 1) := by decide +kernel
theorem dX1_begin_9 : decode cX1_begin 9 = .ok (.if_icmp .ge 23, 3) := by decide +kernel
theorem dX1_begin_12 : decode cX1_begin 12 = .ok (.aload_n 0, 1) := by decide +kernel
theorem dX1_begin_13 : decode cX1_begin 13 = .ok (.getfield 9, 3) := by decide +kernel
theorem dX1_begin_16 : decode cX1_begin 16 = .ok (.aload_n 0, 1) := by decide +kernel
theorem dX1_begin_17 : decode cX1_begin 17 = .ok (.getfield 18, 3) := by decide +kernel
theorem dX1_begin_20 : decode cX1_begin 20 = .ok (.iload_n 1, 1) := by decide +kernel
theorem dX1_begin_21 : decode cX1_begin 21 = .ok (.iastore, 1) := by decide +kernel
theorem dX1_begin_22 : decode cX1_begin 22 = .ok (.aload_n 0, 1) := by decide +kernel
theorem dX1_begin_23 : decode cX1_begin 23 = .ok (.dup, 1) := by decide +kernel
theorem dX1_begin_24 : decode cX1_begin 24 = .ok (.getfield 18, 3) := by decide +kernel
theorem dX1_begin_27 : decode cX1_begin 27 = .ok (.iconst 1, 1) := by decide +kernel
theorem dX1_begin_28 : decode cX1_begin 28 = .ok (.iadd, 1) := by decide +kernel
theorem dX1_begin_29 : decode cX1_begin 29 = .ok (.putfield 18, 3) := by decide +kernel
theorem dX1_begin_32 : decode cX1_begin 32 = .ok (.return_, 1) := by decide +kernel
theorem dX1_extend_0 : decode cX1_extend 0 = .ok (.aload_n 0, 1) := by decide +kernel
theorem dX1_extend_1 : decode cX1_extend 1 = .ok (.getfield 18, 3) := by decide +kernel
theorem dX1_extend_4 : decode cX1_extend 4 = .ok (.ifCond .le 27, 3) := by decide +kernel
theorem dX1_extend_7 : decode cX1_extend 7 = .ok (.aload_n 0, 1) := by decide +kernel
theorem dX1_extend_8 : decode cX1_extend 8 = .ok (.getfield 18, 3) := by decide +kernel
theorem dX1_extend_11 : decode cX1_extend 11 = .ok (.aload_n 0, 1) := by decide +kernel
theorem dX1_extend_12 : decode cX1_extend 12 = .ok (.getfield 15, 3) := by decide +kernel
theorem dX1_extend_15 : decode cX1_extend 15 = .ok (.arraylength, 1) := by decide +kernel
theorem dX1_extend_16 : decode cX1_extend 16 = .ok (.if_icmp .gt 15, 3) := by decide +kernel
theorem dX1_extend_19 : decode cX1_extend 19 = .ok (.aload_n 0, 1) := by decide +kernel
theorem dX1_extend_20 : decode cX1_extend 20 = .ok (.getfield 15, 3) := by decide +kernel
theorem dX1_extend_23 : decode cX1_extend 23 = .ok (.aload_n 0, 1) := by decide +kernel
theorem dX1_extend_24 : decode cX1_extend 24 = .ok (.getfield 18, 3) := by decide +kernel
theorem dX1_extend_27 : decode cX1_extend 27 = .ok (.iconst 1, 1) := by decide +kernel
theorem dX1_extend_28 : decode cX1_extend 28 = .ok (.isub, 1) := by decide +kernel
theorem dX1_extend_29 : decode cX1_extend 29 = .ok (.iload_n 1, 1) := by decide +kernel
theorem dX1_extend_30 : decode cX1_extend 30 = .ok (.iastore, 1) := by decide +kernel
theorem dX1_extend_31 : decode cX1_extend 31 = .ok (.return_, 1) := by decide +kernel
theorem dX1_size_0 : decode cX1_size 0 = .ok (.aload_n 0, 1) := by decide +kernel
theorem dX1_size_1 : decode cX1_size 1 = .ok (.getfield 18, 3) := by decide +kernel
theorem dX1_size_4 : decode cX1_size 4 = .ok (.ireturn, 1) := by decide +kernel
theorem dX1_first_0 : decode cX1_first 0 = .ok (.iload_n 1, 1) := by decide +kernel
theorem dX1_first_1 : decode cX1_first 1 = .ok (.ifCond .lt 29, 3) := by decide +kernel
theorem dX1_first_4 : decode cX1_first 4 = .ok (.iload_n 1, 1) := by decide +kernel
theorem dX1_first_5 : decode cX1_first 5 = .ok (.aload_n 0, 1) := by decide +kernel
theorem dX1_first_6 : decode cX1_first 6 = .ok (.getfield 18, 3) := by decide +kernel
theorem dX1_first_9 : decode cX1_first 9 = .ok (.if_icmp .ge 21, 3) := by decide +kernel
theorem dX1_first_12 : decode cX1_first 12 = .ok (.iload_n 1, 1) := by decide +kernel
theorem dX1_first_13 : decode cX1_first 13 = .ok (.aload_n 0, 1) := by decide +kernel
theorem dX1_first_14 : decode cX1_first 14 = .ok (.getfield 9, 3) := by decide +kernel
theorem dX1_first_17 : decode cX1_first 17 = .ok (.arraylength, 1) := by decide +kernel
theorem dX1_first_18 : decode cX1_first 18 = .ok (.if_icmp .ge 12, 3) := by decide +kernel
theorem dX1_first_21 : decode cX1_first 21 = .ok (.aload_n 0, 1) := by decide +kernel
theorem dX1_first_22 : decode cX1_first 22 = .ok (.getfield 9, 3) := by decide +kernel
theorem dX1_first_25 : decode cX1_first 25 = .ok (.iload_n 1, 1) := by decide +kernel
theorem dX1_first_26 : decode cX1_first 26 = .ok (.iaload, 1) := by decide +kernel
theorem dX1_first_27 : decode cX1_first 27 = .ok (.goto 4, 3) := by decide +kernel
theorem dX1_first_30 : decode cX1_first 30 = .ok (.iconst 0, 1) := by decide +kernel
theorem dX1_first_31 : decode cX1_first 31 = .ok (.ireturn, 1) := by decide +kernel
theorem dX1_last_0 : decode cX1_last 0 = .ok (.iload_n 1, 1) := by decide +kernel
theorem dX1_last_1 : decode cX1_last 1 = .ok (.ifCond .lt 29, 3) := by decide +kernel
theorem dX1_last_4 : decode cX1_last 4 = .ok (.iload_n 1, 1) := by decide +kernel
theorem dX1_last_5 : decode cX1_last 5 = .ok (.aload_n 0, 1) := by decide +kernel
theorem dX1_last_6 : decode cX1_last 6 = .ok (.getfield 18, 3) := by decide +kernel
theorem dX1_last_9 : decode cX1_last 9 = .ok (.if_icmp .ge 21, 3) := by decide +kernel
theorem dX1_last_12 : decode cX1_last 12 = .ok (.iload_n 1, 1) := by decide +kernel
theorem dX1_last_13 : decode cX1_last 13 = .ok (.aload_n 0, 1) := by decide +kernel
theorem dX1_last_14 : decode cX1_last 14 = .ok (.getfield 15, 3) := by decide +kernel
theorem dX1_last_17 : decode cX1_last 17 = .ok (.arraylength, 1) := by decide +kernel
theorem dX1_last_18 : decode cX1_last 18 = .ok (.if_icmp .ge 12, 3) := by decide +kernel
theorem dX1_last_21 : decode cX1_last 21 = .ok (.aload_n 0, 1) := by decide +kernel
theorem dX1_last_22 : decode cX1_last 22 = .ok (.getfield 15, 3) := by decide +kernel
theorem dX1_last_25 : decode cX1_last 25 = .ok (.iload_n 1, 1) := by decide +kernel
theorem dX1_last_26 : decode cX1_last 26 = .ok (.iaload, 1) := by decide +kernel
theorem dX1_last_27 : decode cX1_last 27 = .ok (.goto 4, 3) := by decide +kernel
theorem dX1_last_30 : decode cX1_last 30 = .ok (.iconst (-1), 1) := by decide +kernel
theorem dX1_last_31 : decode cX1_last 31 = .ok (.ireturn, 1) := by decide +kernel
set_option maxRecDepth 20000 in
theorem ggX1_length_X1_fact : GoodIn wsX1_length wsX1_fact := goodIn_r _ [5, 6, 7, 8, 4, 9, 10, 11, 12, 13, 14, 15, 16, 17, 18, 19, 20, 21, 22] (by decide +kernel) (by decide +kernel)
set_option maxRecDepth 20000 in
theorem gX1_length_X1_fact : GoodIn wsX1_length (wsV RX1 35 RX1 yX1_fact wsX1_fact) := goodIn_app (goodIn_of _ (by decide +kernel)) ggX1_length_X1_fact
theorem dX1_length_0 : decode cX1_length 0 = .ok (.aload_n 0, 1) := by decide +kernel
theorem dX1_length_1 : decode cX1_length 1 = .ok (.iload_n 1, 1) := by decide +kernel
theorem dX1_length_2 : decode cX1_length 2 = .ok (.iconst 1, 1) := by decide +kernel
theorem dX1_length_3 : decode cX1_length 3 = .ok (.invokevirtual 35, 3) := by decide +kernel
theorem dX1_length_6 : decode cX1_length 6 = .ok (.aload_n 0, 1) := by decide +kernel
theorem dX1_length_7 : decode cX1_length 7 = .ok (.iload_n 1, 1) := by decide +kernel
theorem dX1_length_8 : decode cX1_length 8 = .ok (.iconst 0, 1) := by decide +kernel
theorem dX1_length_9 : decode cX1_length 9 = .ok (.invokevirtual 35, 3) := by decide +kernel
theorem dX1_length_12 : decode cX1_length 12 = .ok (.isub, 1) := by decide +kernel
theorem dX1_length_13 : decode cX1_length 13 = .ok (.ireturn, 1) := by decide +kernel
set_option maxRecDepth 20000 in
theorem ggX1_fact_X1_first : GoodIn wsX1_fact wsX1_first := goodIn_r _ [5, 6, 7, 16, 17, 18] (by decide +kernel) (by decide +kernel)
set_option maxRecDepth 20000 in
theorem gX1_fact_X1_first : GoodIn wsX1_fact (wsV RX1 39 RX1 yX1_first wsX1_first) := goodIn_app (goodIn_of _ (by decide +kernel)) ggX1_fact_X1_first
set_option maxRecDepth 20000 in
theorem ggX1_fact_X1_last : GoodIn wsX1_fact wsX1_last := goodIn_r _ [11, 6, 12, 16, 17, 18] (by decide +kernel) (by decide +kernel)
set_option maxRecDepth 20000 in
theorem gX1_fact_X1_last : GoodIn wsX1_fact (wsV RX1 43 RX1 yX1_last wsX1_last) := goodIn_app (goodIn_of _ (by decide +kernel)) ggX1_fact_X1_last
set_option maxRecDepth 20000 in
theorem ggX1_fact_X3_isPoint : GoodIn wsX1_fact wsX3_isPoint := goodIn_r _ [15] (by decide +kernel) (by decide +kernel)
set_option maxRecDepth 20000 in
theorem gX1_fact_X3_isPoint_n46 : GoodIn wsX1_fact (wsX3_isPoint) := ggX1_fact_X3_isPoint
theorem dX1_fact_0 : decode cX1_fact 0 = .ok (.iload_n 2, 1) := by decide +kernel
theorem dX1_fact_1 : decode cX1_fact 1 = .ok (.lookupswitch 45 #[(0, 27), (1, 35)], 27) := by decide +kernel
theorem dX1_fact_28 : decode cX1_fact 28 = .ok (.aload_n 0, 1) := by decide +kernel
theorem dX1_fact_29 : decode cX1_fact 29 = .ok (.iload_n 1, 1) := by decide +kernel
theorem dX1_fact_30 : decode cX1_fact 30 = .ok (.invokevirtual 39, 3) := by decide +kernel
theorem dX1_fact_33 : decode cX1_fact 33 = .ok (.iconst 2, 1) := by decide +kernel
theorem dX1_fact_34 : decode cX1_fact 34 = .ok (.idiv, 1) := by decide +kernel
theorem dX1_fact_35 : decode cX1_fact 35 = .ok (.ireturn, 1) := by decide +kernel
theorem dX1_fact_36 : decode cX1_fact 36 = .ok (.aload_n 0, 1) := by decide +kernel
theorem dX1_fact_37 : decode cX1_fact 37 = .ok (.iload_n 1, 1) := by decide +kernel
theorem dX1_fact_38 : decode cX1_fact 38 = .ok (.invokevirtual 43, 3) := by decide +kernel
theorem dX1_fact_41 : decode cX1_fact 41 = .ok (.iconst 1, 1) := by decide +kernel
theorem dX1_fact_42 : decode cX1_fact 42 = .ok (.iadd, 1) := by decide +kernel
theorem dX1_fact_43 : decode cX1_fact 43 = .ok (.iconst 2, 1) := by decide +kernel
theorem dX1_fact_44 : decode cX1_fact 44 = .ok (.idiv, 1) := by decide +kernel
theorem dX1_fact_45 : decode cX1_fact 45 = .ok (.ireturn, 1) := by decide +kernel
theorem dX1_fact_46 : decode cX1_fact 46 = .ok (.aload_n 0, 1) := by decide +kernel
theorem dX1_fact_47 : decode cX1_fact 47 = .ok (.iload_n 1, 1) := by decide +kernel
theorem dX1_fact_48 : decode cX1_fact 48 = .ok (.invokevirtual 39, 3) := by decide +kernel
theorem dX1_fact_51 : decode cX1_fact 51 = .ok (.invokestatic 46, 3) := by decide +kernel
theorem dX1_fact_54 : decode cX1_fact 54 = .ok (.ifCond .eq 7, 3) := by decide +kernel
theorem dX1_fact_57 : decode cX1_fact 57 = .ok (.iconst 1, 1) := by decide +kernel
theorem dX1_fact_58 : decode cX1_fact 58 = .ok (.goto 4, 3) := by decide +kernel
theorem dX1_fact_61 : decode cX1_fact 61 = .ok (.iconst 0, 1) := by decide +kernel
theorem dX1_fact_62 : decode cX1_fact 62 = .ok (.aload_n 0, 1) := by decide +kernel
theorem dX1_fact_63 : decode cX1_fact 63 = .ok (.iload_n 1, 1) := by decide +kernel
theorem dX1_fact_64 : decode cX1_fact 64 = .ok (.invokevirtual 43, 3) := by decide +kernel
theorem dX1_fact_67 : decode cX1_fact 67 = .ok (.invokestatic 46, 3) := by decide +kernel
theorem dX1_fact_70 : decode cX1_fact 70 = .ok (.ifCond .eq 7, 3) := by decide +kernel
theorem dX1_fact_73 : decode cX1_fact 73 = .ok (.iconst 2, 1) := by decide +kernel
theorem dX1_fact_74 : decode cX1_fact 74 = .ok (.goto 4, 3) := by decide +kernel
theorem dX1_fact_77 : decode cX1_fact 77 = .ok (.iconst 0, 1) := by decide +kernel
theorem dX1_fact_78 : decode cX1_fact 78 = .ok (.iadd, 1) := by decide +kernel
theorem dX1_fact_79 : decode cX1_fact 79 = .ok (.ireturn, 1) := by decide +kernel
set_option maxRecDepth 20000 in
theorem ggX1_lonePoints_X1_length : GoodIn wsX1_lonePoints wsX1_length := goodIn_r _ [6, 7, 8, 9, 5, 10, 11, 12, 13, 14, 1, 15, 16, 17, 18, 19, 20, 21, 22, 23, 24, 25, 26] (by decide +kernel) (by decide +kernel)
set_option maxRecDepth 20000 in
theorem gX1_lonePoints_X1_length : GoodIn wsX1_lonePoints (wsV RX1 49 RX1 yX1_length wsX1_length) := goodIn_app (goodIn_of _ (by decide +kernel)) ggX1_lonePoints_X1_length
theorem dX1_lonePoints_0 : decode cX1_lonePoints 0 = .ok (.iconst 0, 1) := by decide +kernel
theorem dX1_lonePoints_1 : decode cX1_lonePoints 1 = .ok (.istore_n 1, 1) := by decide +kernel
theorem dX1_lonePoints_2 : decode cX1_lonePoints 2 = .ok (.iconst 0, 1) := by decide +kernel
theorem dX1_lonePoints_3 : decode cX1_lonePoints 3 = .ok (.istore_n 2, 1) := by decide +kernel
theorem dX1_lonePoints_4 : decode cX1_lonePoints 4 = .ok (.iload_n 2, 1) := by decide +kernel
theorem dX1_lonePoints_5 : decode cX1_lonePoints 5 = .ok (.aload_n 0, 1) := by decide +kernel
theorem dX1_lonePoints_6 : decode cX1_lonePoints 6 = .ok (.getfield 18, 3) := by decide +kernel
theorem dX1_lonePoints_9 : decode cX1_lonePoints 9 = .ok (.if_icmp .ge 20, 3) := by decide +kernel
theorem dX1_lonePoints_12 : decode cX1_lonePoints 12 = .ok (.aload_n 0, 1) := by decide +kernel
theorem dX1_lonePoints_13 : decode cX1_lonePoints 13 = .ok (.iload_n 2, 1) := by decide +kernel
theorem dX1_lonePoints_14 : decode cX1_lonePoints 14 = .ok (.invokevirtual 49, 3) := by decide +kernel
theorem dX1_lonePoints_17 : decode cX1_lonePoints 17 = .ok (.ifCond .ne 6, 3) := by decide +kernel
theorem dX1_lonePoints_20 : decode cX1_lonePoints 20 = .ok (.iinc 1 1, 3) := by decide +kernel
theorem dX1_lonePoints_23 : decode cX1_lonePoints 23 = .ok (.iinc 2 1, 3) := by decide +kernel
theorem dX1_lonePoints_26 : decode cX1_lonePoints 26 = .ok (.goto (-22), 3) := by decide +kernel
theorem dX1_lonePoints_29 : decode cX1_lonePoints 29 = .ok (.iload_n 1, 1) := by decide +kernel
theorem dX1_lonePoints_30 : decode cX1_lonePoints 30 = .ok (.ireturn, 1) := by decide +kernel
set_option maxRecDepth 20000 in
theorem ggX1_longest_X1_length : GoodIn wsX1_longest wsX1_length := goodIn_r _ [6, 7, 8, 9, 5, 10, 11, 12, 13, 14, 1, 15, 16, 17, 18, 19, 20, 21, 22, 23, 24, 25, 26] (by decide +kernel) (by decide +kernel)
set_option maxRecDepth 20000 in
theorem gX1_longest_X1_length : GoodIn wsX1_longest (wsV RX1 49 RX1 yX1_length wsX1_length) := goodIn_app (goodIn_of _ (by decide +kernel)) ggX1_longest_X1_length
theorem dX1_longest_0 : decode cX1_longest 0 = .ok (.iconst 0, 1) := by decide +kernel
theorem dX1_longest_1 : decode cX1_longest 1 = .ok (.istore_n 1, 1) := by decide +kernel
theorem dX1_longest_2 : decode cX1_longest 2 = .ok (.iconst 1, 1) := by decide +kernel
theorem dX1_longest_3 : decode cX1_longest 3 = .ok (.istore_n 2, 1) := by decide +kernel
theorem dX1_longest_4 : decode cX1_longest 4 = .ok (.iload_n 2, 1) := by decide +kernel
theorem dX1_longest_5 : decode cX1_longest 5 = .ok (.aload_n 0, 1) := by decide +kernel
theorem dX1_longest_6 : decode cX1_longest 6 = .ok (.getfield 18, 3) := by decide +kernel
theorem dX1_longest_9 : decode cX1_longest 9 = .ok (.if_icmp .ge 24, 3) := by decide +kernel
theorem dX1_longest_12 : decode cX1_longest 12 = .ok (.aload_n 0, 1) := by decide +kernel
theorem dX1_longest_13 : decode cX1_longest 13 = .ok (.iload_n 2, 1) := by decide +kernel
theorem dX1_longest_14 : decode cX1_longest 14 = .ok (.invokevirtual 49, 3) := by decide +kernel
theorem dX1_longest_17 : decode cX1_longest 17 = .ok (.aload_n 0, 1) := by decide +kernel
theorem dX1_longest_18 : decode cX1_longest 18 = .ok (.iload_n 1, 1) := by decide +kernel
theorem dX1_longest_19 : decode cX1_longest 19 = .ok (.invokevirtual 49, 3) := by decide +kernel
theorem dX1_longest_22 : decode cX1_longest 22 = .ok (.if_icmp .le 5, 3) := by decide +kernel
theorem dX1_longest_25 : decode cX1_longest 25 = .ok (.iload_n 2, 1) := by decide +kernel
theorem dX1_longest_26 : decode cX1_longest 26 = .ok (.istore_n 1, 1) := by decide +kernel
theorem dX1_longest_27 : decode cX1_longest 27 = .ok (.iinc 2 1, 3) := by decide +kernel
theorem dX1_longest_30 : decode cX1_longest 30 = .ok (.goto (-26), 3) := by decide +kernel
theorem dX1_longest_33 : decode cX1_longest 33 = .ok (.iload_n 1, 1) := by decide +kernel
theorem dX1_longest_34 : decode cX1_longest 34 = .ok (.ireturn, 1) := by decide +kernel
theorem dX2_init_0 : decode cX2_init 0 = .ok (.aload_n 0, 1) := by decide +kernel
theorem dX2_init_1 : decode cX2_init 1 = .ok (.invokespecial 3, 3) := by decide +kernel
theorem dX2_init_4 : decode cX2_init 4 = .ok (.aload_n 0, 1) := by decide +kernel
theorem dX2_init_5 : decode cX2_init 5 = .ok (.sipush 201, 3) := by decide +kernel
theorem dX2_init_8 : decode cX2_init 8 = .ok (.newarray .int, 2) := by decide +kernel
theorem dX2_init_10 : decode cX2_init 10 = .ok (.putfield 9, 3) := by decide +kernel
theorem dX2_init_13 : decode cX2_init 13 = .ok (.return_, 1) := by decide +kernel
theorem dX2_at_0 : decode cX2_at 0 = .ok (.iload_n 1, 1) := by decide +kernel
theorem dX2_at_1 : decode cX2_at 1 = .ok (.ifCond .lt 21, 3) := by decide +kernel
theorem dX2_at_4 : decode cX2_at 4 = .ok (.iload_n 1, 1) := by decide +kernel
theorem dX2_at_5 : decode cX2_at 5 = .ok (.aload_n 0, 1) := by decide +kernel
theorem dX2_at_6 : decode cX2_at 6 = .ok (.getfield 9, 3) := by decide +kernel
theorem dX2_at_9 : decode cX2_at 9 = .ok (.arraylength, 1) := by decide +kernel
theorem dX2_at_10 : decode cX2_at 10 = .ok (.if_icmp .ge 12, 3) := by decide +kernel
theorem dX2_at_13 : decode cX2_at 13 = .ok (.aload_n 0, 1) := by decide +kernel
theorem dX2_at_14 : decode cX2_at 14 = .ok (.getfield 9, 3) := by decide +kernel
theorem dX2_at_17 : decode cX2_at 17 = .ok (.iload_n 1, 1) := by decide +kernel
theorem dX2_at_18 : decode cX2_at 18 = .ok (.iaload, 1) := by decide +kernel
theorem dX2_at_19 : decode cX2_at 19 = .ok (.goto 4, 3) := by decide +kernel
theorem dX2_at_22 : decode cX2_at 22 = .ok (.iconst 0, 1) := by decide +kernel
theorem dX2_at_23 : decode cX2_at 23 = .ok (.ireturn, 1) := by decide +kernel
theorem dX2_write_0 : decode cX2_write 0 = .ok (.iload_n 1, 1) := by decide +kernel
theorem dX2_write_1 : decode cX2_write 1 = .ok (.ifCond .lt 31, 3) := by decide +kernel
theorem dX2_write_4 : decode cX2_write 4 = .ok (.iload_n 1, 1) := by decide +kernel
theorem dX2_write_5 : decode cX2_write 5 = .ok (.aload_n 0, 1) := by decide +kernel
theorem dX2_write_6 : decode cX2_write 6 = .ok (.getfield 9, 3) := by decide +kernel
theorem dX2_write_9 : decode cX2_write 9 = .ok (.arraylength, 1) := by decide +kernel
theorem dX2_write_10 : decode cX2_write 10 = .ok (.if_icmp .ge 22, 3) := by decide +kernel
theorem dX2_write_13 : decode cX2_write 13 = .ok (.aload_n 0, 1) := by decide +kernel
theorem dX2_write_14 : decode cX2_write 14 = .ok (.getfield 9, 3) := by decide +kernel
theorem dX2_write_17 : decode cX2_write 17 = .ok (.iload_n 1, 1) := by decide +kernel
theorem dX2_write_18 : decode cX2_write 18 = .ok (.sipush (-10000), 3) := by decide +kernel
theorem dX2_write_21 : decode cX2_write 21 = .ok (.sipush 10000, 3) := by decide +kernel
theorem dX2_write_24 : decode cX2_write 24 = .ok (.iload_n 2, 1) := by decide +kernel
theorem dX2_write_25 : decode cX2_write 25 = .ok (.invokestatic 15, 3) := by decide +kernel
theorem dX2_write_28 : decode cX2_write 28 = .ok (.invokestatic 21, 3) := by decide +kernel
theorem dX2_write_31 : decode cX2_write 31 = .ok (.iastore, 1) := by decide +kernel
theorem dX2_write_32 : decode cX2_write 32 = .ok (.return_, 1) := by decide +kernel
set_option maxRecDepth 20000 in
theorem ggX2_copyFrom_X2_at : GoodIn wsX2_copyFrom wsX2_at := goodIn_r _ [5, 6, 18] (by decide +kernel) (by decide +kernel)
set_option maxRecDepth 20000 in
theorem gX2_copyFrom_X2_at : GoodIn wsX2_copyFrom (wsV RX2 24 RX2 yX2_at wsX2_at) := goodIn_app (goodIn_of _ (by decide +kernel)) ggX2_copyFrom_X2_at
set_option maxRecDepth 20000 in
theorem ggX2_copyFrom_X2_write : GoodIn wsX2_copyFrom wsX2_write := goodIn_r _ [10, 6, 11, 12, 13, 14, 15, 16, 17, 18] (by decide +kernel) (by decide +kernel)
set_option maxRecDepth 20000 in
theorem gX2_copyFrom_X2_write : GoodIn wsX2_copyFrom (wsV RX2 28 RX2 yX2_write wsX2_write) := goodIn_app (goodIn_of _ (by decide +kernel)) ggX2_copyFrom_X2_write
theorem dX2_copyFrom_0 : decode cX2_copyFrom 0 = .ok (.iconst 0, 1) := by decide +kernel
theorem dX2_copyFrom_1 : decode cX2_copyFrom 1 = .ok (.istore_n 2, 1) := by decide +kernel
theorem dX2_copyFrom_2 : decode cX2_copyFrom 2 = .ok (.iload_n 2, 1) := by decide +kernel
theorem dX2_copyFrom_3 : decode cX2_copyFrom 3 = .ok (.sipush 201, 3) := by decide +kernel
theorem dX2_copyFrom_6 : decode cX2_copyFrom 6 = .ok (.if_icmp .ge 19, 3) := by decide +kernel
theorem dX2_copyFrom_9 : decode cX2_copyFrom 9 = .ok (.aload_n 0, 1) := by decide +kernel
theorem dX2_copyFrom_10 : decode cX2_copyFrom 10 = .ok (.iload_n 2, 1) := by decide +kernel
theorem dX2_copyFrom_11 : decode cX2_copyFrom 11 = .ok (.aload_n 1, 1) := by decide +kernel
theorem dX2_copyFrom_12 : decode cX2_copyFrom 12 = .ok (.iload_n 2, 1) := by decide +kernel
theorem dX2_copyFrom_13 : decode cX2_copyFrom 13 = .ok (.invokevirtual 24, 3) := by decide +kernel
theorem dX2_copyFrom_16 : decode cX2_copyFrom 16 = .ok (.invokevirtual 28, 3) := by decide +kernel
theorem dX2_copyFrom_19 : decode cX2_copyFrom 19 = .ok (.iinc 2 1, 3) := by decide +kernel
theorem dX2_copyFrom_22 : decode cX2_copyFrom 22 = .ok (.goto (-20), 3) := by decide +kernel
theorem dX2_copyFrom_25 : decode cX2_copyFrom 25 = .ok (.return_, 1) := by decide +kernel
set_option maxRecDepth 20000 in
theorem ggX2_steps_X2_at : GoodIn wsX2_steps wsX2_at := goodIn_r _ [5, 6, 7] (by decide +kernel) (by decide +kernel)
set_option maxRecDepth 20000 in
theorem gX2_steps_X2_at : GoodIn wsX2_steps (wsV RX2 24 RX2 yX2_at wsX2_at) := goodIn_app (goodIn_of _ (by decide +kernel)) ggX2_steps_X2_at
theorem dX2_steps_0 : decode cX2_steps 0 = .ok (.iconst 1, 1) := by decide +kernel
theorem dX2_steps_1 : decode cX2_steps 1 = .ok (.istore_n 1, 1) := by decide +kernel
theorem dX2_steps_2 : decode cX2_steps 2 = .ok (.iconst 1, 1) := by decide +kernel
theorem dX2_steps_3 : decode cX2_steps 3 = .ok (.istore_n 2, 1) := by decide +kernel
theorem dX2_steps_4 : decode cX2_steps 4 = .ok (.iload_n 2, 1) := by decide +kernel
theorem dX2_steps_5 : decode cX2_steps 5 = .ok (.sipush 201, 3) := by decide +kernel
theorem dX2_steps_8 : decode cX2_steps 8 = .ok (.if_icmp .ge 27, 3) := by decide +kernel
theorem dX2_steps_11 : decode cX2_steps 11 = .ok (.aload_n 0, 1) := by decide +kernel
theorem dX2_steps_12 : decode cX2_steps 12 = .ok (.iload_n 2, 1) := by decide +kernel
theorem dX2_steps_13 : decode cX2_steps 13 = .ok (.invokevirtual 24, 3) := by decide +kernel
theorem dX2_steps_16 : decode cX2_steps 16 = .ok (.aload_n 0, 1) := by decide +kernel
theorem dX2_steps_17 : decode cX2_steps 17 = .ok (.iload_n 2, 1) := by decide +kernel
theorem dX2_steps_18 : decode cX2_steps 18 = .ok (.iconst 1, 1) := by decide +kernel
theorem dX2_steps_19 : decode cX2_steps 19 = .ok (.isub, 1) := by decide +kernel
theorem dX2_steps_20 : decode cX2_steps 20 = .ok (.invokevirtual 24, 3) := by decide +kernel
theorem dX2_steps_23 : decode cX2_steps 23 = .ok (.if_icmp .eq 6, 3) := by decide +kernel
theorem dX2_steps_26 : decode cX2_steps 26 = .ok (.iinc 1 1, 3) := by decide +kernel
theorem dX2_steps_29 : decode cX2_steps 29 = .ok (.iinc 2 1, 3) := by decide +kernel
theorem dX2_steps_32 : decode cX2_steps 32 = .ok (.goto (-28), 3) := by decide +kernel
theorem dX2_steps_35 : decode cX2_steps 35 = .ok (.iload_n 1, 1) := by decide +kernel
theorem dX2_steps_36 : decode cX2_steps 36 = .ok (.ireturn, 1) := by decide +kernel
set_option maxRecDepth 20000 in
theorem ggX2_greatest_X2_at : GoodIn wsX2_greatest wsX2_at := goodIn_r _ [9, 10, 11] (by decide +kernel) (by decide +kernel)
set_option maxRecDepth 20000 in
theorem gX2_greatest_X2_at : GoodIn wsX2_greatest (wsV RX2 24 RX2 yX2_at wsX2_at) := goodIn_app (goodIn_of _ (by decide +kernel)) ggX2_greatest_X2_at
theorem dX2_greatest_0 : decode cX2_greatest 0 = .ok (.sipush (-10000), 3) := by decide +kernel
theorem dX2_greatest_3 : decode cX2_greatest 3 = .ok (.istore_n 3, 1) := by decide +kernel
theorem dX2_greatest_4 : decode cX2_greatest 4 = .ok (.iload_n 1, 1) := by decide +kernel
theorem dX2_greatest_5 : decode cX2_greatest 5 = .ok (.iconst 0, 1) := by decide +kernel
theorem dX2_greatest_6 : decode cX2_greatest 6 = .ok (.invokestatic 21, 3) := by decide +kernel
theorem dX2_greatest_9 : decode cX2_greatest 9 = .ok (.istore 4, 2) := by decide +kernel
theorem dX2_greatest_11 : decode cX2_greatest 11 = .ok (.iload 4, 2) := by decide +kernel
theorem dX2_greatest_13 : decode cX2_greatest 13 = .ok (.iload_n 2, 1) := by decide +kernel
theorem dX2_greatest_14 : decode cX2_greatest 14 = .ok (.if_icmp .gt 28, 3) := by decide +kernel
theorem dX2_greatest_17 : decode cX2_greatest 17 = .ok (.iload 4, 2) := by decide +kernel
theorem dX2_greatest_19 : decode cX2_greatest 19 = .ok (.sipush 201, 3) := by decide +kernel
theorem dX2_greatest_22 : decode cX2_greatest 22 = .ok (.if_icmp .ge 20, 3) := by decide +kernel
theorem dX2_greatest_25 : decode cX2_greatest 25 = .ok (.iload_n 3, 1) := by decide +kernel
theorem dX2_greatest_26 : decode cX2_greatest 26 = .ok (.aload_n 0, 1) := by decide +kernel
theorem dX2_greatest_27 : decode cX2_greatest 27 = .ok (.iload 4, 2) := by decide +kernel
theorem dX2_greatest_29 : decode cX2_greatest 29 = .ok (.invokevirtual 24, 3) := by decide +kernel
theorem dX2_greatest_32 : decode cX2_greatest 32 = .ok (.invokestatic 21, 3) := by decide +kernel
theorem dX2_greatest_35 : decode cX2_greatest 35 = .ok (.istore_n 3, 1) := by decide +kernel
theorem dX2_greatest_36 : decode cX2_greatest 36 = .ok (.iinc 4 1, 3) := by decide +kernel
theorem dX2_greatest_39 : decode cX2_greatest 39 = .ok (.goto (-28), 3) := by decide +kernel
theorem dX2_greatest_42 : decode cX2_greatest 42 = .ok (.iload_n 3, 1) := by decide +kernel
theorem dX2_greatest_43 : decode cX2_greatest 43 = .ok (.ireturn, 1) := by decide +kernel
set_option maxRecDepth 20000 in
theorem ggX2_least_X2_at : GoodIn wsX2_least wsX2_at := goodIn_r _ [12, 13, 14] (by decide +kernel) (by decide +kernel)
set_option maxRecDepth 20000 in
theorem gX2_least_X2_at : GoodIn wsX2_least (wsV RX2 24 RX2 yX2_at wsX2_at) := goodIn_app (goodIn_of _ (by decide +kernel)) ggX2_least_X2_at
theorem dX2_least_0 : decode cX2_least 0 = .ok (.sipush 10000, 3) := by decide +kernel
theorem dX2_least_3 : decode cX2_least 3 = .ok (.istore_n 3, 1) := by decide +kernel
theorem dX2_least_4 : decode cX2_least 4 = .ok (.iload_n 1, 1) := by decide +kernel
theorem dX2_least_5 : decode cX2_least 5 = .ok (.iconst 0, 1) := by decide +kernel
theorem dX2_least_6 : decode cX2_least 6 = .ok (.invokestatic 21, 3) := by decide +kernel
theorem dX2_least_9 : decode cX2_least 9 = .ok (.istore 4, 2) := by decide +kernel
theorem dX2_least_11 : decode cX2_least 11 = .ok (.iload 4, 2) := by decide +kernel
theorem dX2_least_13 : decode cX2_least 13 = .ok (.iload_n 2, 1) := by decide +kernel
theorem dX2_least_14 : decode cX2_least 14 = .ok (.if_icmp .gt 28, 3) := by decide +kernel
theorem dX2_least_17 : decode cX2_least 17 = .ok (.iload 4, 2) := by decide +kernel
theorem dX2_least_19 : decode cX2_least 19 = .ok (.sipush 201, 3) := by decide +kernel
theorem dX2_least_22 : decode cX2_least 22 = .ok (.if_icmp .ge 20, 3) := by decide +kernel
theorem dX2_least_25 : decode cX2_least 25 = .ok (.iload_n 3, 1) := by decide +kernel
theorem dX2_least_26 : decode cX2_least 26 = .ok (.aload_n 0, 1) := by decide +kernel
theorem dX2_least_27 : decode cX2_least 27 = .ok (.iload 4, 2) := by decide +kernel
theorem dX2_least_29 : decode cX2_least 29 = .ok (.invokevirtual 24, 3) := by decide +kernel
theorem dX2_least_32 : decode cX2_least 32 = .ok (.invokestatic 15, 3) := by decide +kernel
theorem dX2_least_35 : decode cX2_least 35 = .ok (.istore_n 3, 1) := by decide +kernel
theorem dX2_least_36 : decode cX2_least 36 = .ok (.iinc 4 1, 3) := by decide +kernel
theorem dX2_least_39 : decode cX2_least 39 = .ok (.goto (-28), 3) := by decide +kernel
theorem dX2_least_42 : decode cX2_least 42 = .ok (.iload_n 3, 1) := by decide +kernel
theorem dX2_least_43 : decode cX2_least 43 = .ok (.ireturn, 1) := by decide +kernel
set_option maxRecDepth 20000 in
theorem ggX2_firstGreatest_X2_at : GoodIn wsX2_firstGreatest wsX2_at := goodIn_r _ [5, 6, 7] (by decide +kernel) (by decide +kernel)
set_option maxRecDepth 20000 in
theorem gX2_firstGreatest_X2_at : GoodIn wsX2_firstGreatest (wsV RX2 24 RX2 yX2_at wsX2_at) := goodIn_app (goodIn_of _ (by decide +kernel)) ggX2_firstGreatest_X2_at
theorem dX2_firstGreatest_0 : decode cX2_firstGreatest 0 = .ok (.iconst 0, 1) := by decide +kernel
theorem dX2_firstGreatest_1 : decode cX2_firstGreatest 1 = .ok (.istore_n 1, 1) := by decide +kernel
theorem dX2_firstGreatest_2 : decode cX2_firstGreatest 2 = .ok (.iconst 1, 1) := by decide +kernel
theorem dX2_firstGreatest_3 : decode cX2_firstGreatest 3 = .ok (.istore_n 2, 1) := by decide +kernel
theorem dX2_firstGreatest_4 : decode cX2_firstGreatest 4 = .ok (.iload_n 2, 1) := by decide +kernel
theorem dX2_firstGreatest_5 : decode cX2_firstGreatest 5 = .ok (.sipush 201, 3) := by decide +kernel
theorem dX2_firstGreatest_8 : decode cX2_firstGreatest 8 = .ok (.if_icmp .ge 24, 3) := by decide +kernel
theorem dX2_firstGreatest_11 : decode cX2_firstGreatest 11 = .ok (.aload_n 0, 1) := by decide +kernel
theorem dX2_firstGreatest_12 : decode cX2_firstGreatest 12 = .ok (.iload_n 2, 1) := by decide +kernel
theorem dX2_firstGreatest_13 : decode cX2_firstGreatest 13 = .ok (.invokevirtual 24, 3) := by decide +kernel
theorem dX2_firstGreatest_16 : decode cX2_firstGreatest 16 = .ok (.aload_n 0, 1) := by decide +kernel
theorem dX2_firstGreatest_17 : decode cX2_firstGreatest 17 = .ok (.iload_n 1, 1) := by decide +kernel
theorem dX2_firstGreatest_18 : decode cX2_firstGreatest 18 = .ok (.invokevirtual 24, 3) := by decide +kernel
theorem dX2_firstGreatest_21 : decode cX2_firstGreatest 21 = .ok (.if_icmp .le 5, 3) := by decide +kernel
theorem dX2_firstGreatest_24 : decode cX2_firstGreatest 24 = .ok (.iload_n 2, 1) := by decide +kernel
theorem dX2_firstGreatest_25 : decode cX2_firstGreatest 25 = .ok (.istore_n 1, 1) := by decide +kernel
theorem dX2_firstGreatest_26 : decode cX2_firstGreatest 26 = .ok (.iinc 2 1, 3) := by decide +kernel
theorem dX2_firstGreatest_29 : decode cX2_firstGreatest 29 = .ok (.goto (-25), 3) := by decide +kernel
theorem dX2_firstGreatest_32 : decode cX2_firstGreatest 32 = .ok (.iload_n 1, 1) := by decide +kernel
theorem dX2_firstGreatest_33 : decode cX2_firstGreatest 33 = .ok (.ireturn, 1) := by decide +kernel
set_option maxRecDepth 20000 in
theorem ggX2_negate_X2_at : GoodIn wsX2_negate wsX2_at := goodIn_r _ [5, 6, 18] (by decide +kernel) (by decide +kernel)
set_option maxRecDepth 20000 in
theorem gX2_negate_X2_at : GoodIn wsX2_negate (wsV RX2 24 RX2 yX2_at wsX2_at) := goodIn_app (goodIn_of _ (by decide +kernel)) ggX2_negate_X2_at
set_option maxRecDepth 20000 in
theorem ggX2_negate_X2_write : GoodIn wsX2_negate wsX2_write := goodIn_r _ [10, 6, 11, 12, 13, 14, 15, 16, 17, 18] (by decide +kernel) (by decide +kernel)
set_option maxRecDepth 20000 in
theorem gX2_negate_X2_write : GoodIn wsX2_negate (wsV RX2 28 RX2 yX2_write wsX2_write) := goodIn_app (goodIn_of _ (by decide +kernel)) ggX2_negate_X2_write
theorem dX2_negate_0 : decode cX2_negate 0 = .ok (.iconst 0, 1) := by decide +kernel
theorem dX2_negate_1 : decode cX2_negate 1 = .ok (.istore_n 1, 1) := by decide +kernel
theorem dX2_negate_2 : decode cX2_negate 2 = .ok (.iload_n 1, 1) := by decide +kernel
theorem dX2_negate_3 : decode cX2_negate 3 = .ok (.sipush 201, 3) := by decide +kernel
theorem dX2_negate_6 : decode cX2_negate 6 = .ok (.if_icmp .ge 20, 3) := by decide +kernel
theorem dX2_negate_9 : decode cX2_negate 9 = .ok (.aload_n 0, 1) := by decide +kernel
theorem dX2_negate_10 : decode cX2_negate 10 = .ok (.iload_n 1, 1) := by decide +kernel
theorem dX2_negate_11 : decode cX2_negate 11 = .ok (.aload_n 0, 1) := by decide +kernel
theorem dX2_negate_12 : decode cX2_negate 12 = .ok (.iload_n 1, 1) := by decide +kernel
theorem dX2_negate_13 : decode cX2_negate 13 = .ok (.invokevirtual 24, 3) := by decide +kernel
theorem dX2_negate_16 : decode cX2_negate 16 = .ok (.ineg, 1) := by decide +kernel
theorem dX2_negate_17 : decode cX2_negate 17 = .ok (.invokevirtual 28, 3) := by decide +kernel
theorem dX2_negate_20 : decode cX2_negate 20 = .ok (.iinc 1 1, 3) := by decide +kernel
theorem dX2_negate_23 : decode cX2_negate 23 = .ok (.goto (-21), 3) := by decide +kernel
theorem dX2_negate_26 : decode cX2_negate 26 = .ok (.return_, 1) := by decide +kernel
set_option maxRecDepth 20000 in
theorem ggX2_climbFromLeft_X2_at : GoodIn wsX2_climbFromLeft wsX2_at := goodIn_r _ [9, 10, 18] (by decide +kernel) (by decide +kernel)
set_option maxRecDepth 20000 in
theorem gX2_climbFromLeft_X2_at : GoodIn wsX2_climbFromLeft (wsV RX2 24 RX2 yX2_at wsX2_at) := goodIn_app (goodIn_of _ (by decide +kernel)) ggX2_climbFromLeft_X2_at
set_option maxRecDepth 20000 in
theorem ggX2_climbFromLeft_X2_write : GoodIn wsX2_climbFromLeft wsX2_write := goodIn_r _ [14, 10, 15, 16, 3, 17, 1, 2, 4, 18] (by decide +kernel) (by decide +kernel)
set_option maxRecDepth 20000 in
theorem gX2_climbFromLeft_X2_write : GoodIn wsX2_climbFromLeft (wsV RX2 28 RX2 yX2_write wsX2_write) := goodIn_app (goodIn_of _ (by decide +kernel)) ggX2_climbFromLeft_X2_write
theorem dX2_climbFromLeft_0 : decode cX2_climbFromLeft 0 = .ok (.iconst 1, 1) := by decide +kernel
theorem dX2_climbFromLeft_1 : decode cX2_climbFromLeft 1 = .ok (.istore_n 1, 1) := by decide +kernel
theorem dX2_climbFromLeft_2 : decode cX2_climbFromLeft 2 = .ok (.iload_n 1, 1) := by decide +kernel
theorem dX2_climbFromLeft_3 : decode cX2_climbFromLeft 3 = .ok (.sipush 201, 3) := by decide +kernel
theorem dX2_climbFromLeft_6 : decode cX2_climbFromLeft 6 = .ok (.if_icmp .ge 29, 3) := by decide +kernel
theorem dX2_climbFromLeft_9 : decode cX2_climbFromLeft 9 = .ok (.aload_n 0, 1) := by decide +kernel
theorem dX2_climbFromLeft_10 : decode cX2_climbFromLeft 10 = .ok (.iload_n 1, 1) := by decide +kernel
theorem dX2_climbFromLeft_11 : decode cX2_climbFromLeft 11 = .ok (.aload_n 0, 1) := by decide +kernel
theorem dX2_climbFromLeft_12 : decode cX2_climbFromLeft 12 = .ok (.iload_n 1, 1) := by decide +kernel
theorem dX2_climbFromLeft_13 : decode cX2_climbFromLeft 13 = .ok (.invokevirtual 24, 3) := by decide +kernel
theorem dX2_climbFromLeft_16 : decode cX2_climbFromLeft 16 = .ok (.aload_n 0, 1) := by decide +kernel
theorem dX2_climbFromLeft_17 : decode cX2_climbFromLeft 17 = .ok (.iload_n 1, 1) := by decide +kernel
theorem dX2_climbFromLeft_18 : decode cX2_climbFromLeft 18 = .ok (.iconst 1, 1) := by decide +kernel
theorem dX2_climbFromLeft_19 : decode cX2_climbFromLeft 19 = .ok (.isub, 1) := by decide +kernel
theorem dX2_climbFromLeft_20 : decode cX2_climbFromLeft 20 = .ok (.invokevirtual 24, 3) := by decide +kernel
theorem dX2_climbFromLeft_23 : decode cX2_climbFromLeft 23 = .ok (.invokestatic 21, 3) := by decide +kernel
theorem dX2_climbFromLeft_26 : decode cX2_climbFromLeft 26 = .ok (.invokevirtual 28, 3) := by decide +kernel
theorem dX2_climbFromLeft_29 : decode cX2_climbFromLeft 29 = .ok (.iinc 1 1, 3) := by decide +kernel
theorem dX2_climbFromLeft_32 : decode cX2_climbFromLeft 32 = .ok (.goto (-30), 3) := by decide +kernel
theorem dX2_climbFromLeft_35 : decode cX2_climbFromLeft 35 = .ok (.return_, 1) := by decide +kernel
set_option maxRecDepth 20000 in
theorem ggX2_climbFromRight_X2_at : GoodIn wsX2_climbFromRight wsX2_at := goodIn_r _ [9, 10, 18] (by decide +kernel) (by decide +kernel)
set_option maxRecDepth 20000 in
theorem gX2_climbFromRight_X2_at : GoodIn wsX2_climbFromRight (wsV RX2 24 RX2 yX2_at wsX2_at) := goodIn_app (goodIn_of _ (by decide +kernel)) ggX2_climbFromRight_X2_at
set_option maxRecDepth 20000 in
theorem ggX2_climbFromRight_X2_write : GoodIn wsX2_climbFromRight wsX2_write := goodIn_r _ [14, 10, 15, 16, 3, 17, 1, 2, 4, 18] (by decide +kernel) (by decide +kernel)
set_option maxRecDepth 20000 in
theorem gX2_climbFromRight_X2_write : GoodIn wsX2_climbFromRight (wsV RX2 28 RX2 yX2_write wsX2_write) := goodIn_app (goodIn_of _ (by decide +kernel)) ggX2_climbFromRight_X2_write
theorem dX2_climbFromRight_0 : decode cX2_climbFromRight 0 = .ok (.sipush 199, 3) := by decide +kernel
theorem dX2_climbFromRight_3 : decode cX2_climbFromRight 3 = .ok (.istore_n 1, 1) := by decide +kernel
theorem dX2_climbFromRight_4 : decode cX2_climbFromRight 4 = .ok (.iload_n 1, 1) := by decide +kernel
theorem dX2_climbFromRight_5 : decode cX2_climbFromRight 5 = .ok (.ifCond .lt 29, 3) := by decide +kernel
theorem dX2_climbFromRight_8 : decode cX2_climbFromRight 8 = .ok (.aload_n 0, 1) := by decide +kernel
theorem dX2_climbFromRight_9 : decode cX2_climbFromRight 9 = .ok (.iload_n 1, 1) := by decide +kernel
theorem dX2_climbFromRight_10 : decode cX2_climbFromRight 10 = .ok (.aload_n 0, 1) := by decide +kernel
theorem dX2_climbFromRight_11 : decode cX2_climbFromRight 11 = .ok (.iload_n 1, 1) := by decide +kernel
theorem dX2_climbFromRight_12 : decode cX2_climbFromRight 12 = .ok (.invokevirtual 24, 3) := by decide +kernel
theorem dX2_climbFromRight_15 : decode cX2_climbFromRight 15 = .ok (.aload_n 0, 1) := by decide +kernel
theorem dX2_climbFromRight_16 : decode cX2_climbFromRight 16 = .ok (.iload_n 1, 1) := by decide +kernel
theorem dX2_climbFromRight_17 : decode cX2_climbFromRight 17 = .ok (.iconst 1, 1) := by decide +kernel
theorem dX2_climbFromRight_18 : decode cX2_climbFromRight 18 = .ok (.iadd, 1) := by decide +kernel
theorem dX2_climbFromRight_19 : decode cX2_climbFromRight 19 = .ok (.invokevirtual 24, 3) := by decide +kernel
theorem dX2_climbFromRight_22 : decode cX2_climbFromRight 22 = .ok (.invokestatic 21, 3) := by decide +kernel
theorem dX2_climbFromRight_25 : decode cX2_climbFromRight 25 = .ok (.invokevirtual 28, 3) := by decide +kernel
theorem dX2_climbFromRight_28 : decode cX2_climbFromRight 28 = .ok (.iinc 1 (-1), 3) := by decide +kernel
theorem dX2_climbFromRight_31 : decode cX2_climbFromRight 31 = .ok (.goto (-27), 3) := by decide +kernel
theorem dX2_climbFromRight_34 : decode cX2_climbFromRight 34 = .ok (.return_, 1) := by decide +kernel
set_option maxRecDepth 20000 in
theorem ggX2_addUp_X3_isPoint : GoodIn wsX2_addUp wsX3_isPoint := goodIn_r _ [3] (by decide +kernel) (by decide +kernel)
set_option maxRecDepth 20000 in
theorem gX2_addUp_X3_isPoint_n32 : GoodIn wsX2_addUp (wsX3_isPoint) := ggX2_addUp_X3_isPoint
set_option maxRecDepth 20000 in
theorem ggX2_addUp_X2_at : GoodIn wsX2_addUp wsX2_at := goodIn_r _ [8, 9, 21] (by decide +kernel) (by decide +kernel)
set_option maxRecDepth 20000 in
theorem gX2_addUp_X2_at : GoodIn wsX2_addUp (wsV RX2 24 RX2 yX2_at wsX2_at) := goodIn_app (goodIn_of _ (by decide +kernel)) ggX2_addUp_X2_at
set_option maxRecDepth 20000 in
theorem ggX2_addUp_X2_write : GoodIn wsX2_addUp wsX2_write := goodIn_r _ [13, 9, 14, 15, 16, 17, 18, 19, 20, 21] (by decide +kernel) (by decide +kernel)
set_option maxRecDepth 20000 in
theorem gX2_addUp_X2_write : GoodIn wsX2_addUp (wsV RX2 28 RX2 yX2_write wsX2_write) := goodIn_app (goodIn_of _ (by decide +kernel)) ggX2_addUp_X2_write
theorem dX2_addUp_0 : decode cX2_addUp 0 = .ok (.iconst 0, 1) := by decide +kernel
theorem dX2_addUp_1 : decode cX2_addUp 1 = .ok (.istore_n 1, 1) := by decide +kernel
theorem dX2_addUp_2 : decode cX2_addUp 2 = .ok (.iconst 0, 1) := by decide +kernel
theorem dX2_addUp_3 : decode cX2_addUp 3 = .ok (.istore_n 2, 1) := by decide +kernel
theorem dX2_addUp_4 : decode cX2_addUp 4 = .ok (.iload_n 2, 1) := by decide +kernel
theorem dX2_addUp_5 : decode cX2_addUp 5 = .ok (.sipush 201, 3) := by decide +kernel
theorem dX2_addUp_8 : decode cX2_addUp 8 = .ok (.if_icmp .ge 30, 3) := by decide +kernel
theorem dX2_addUp_11 : decode cX2_addUp 11 = .ok (.iload_n 2, 1) := by decide +kernel
theorem dX2_addUp_12 : decode cX2_addUp 12 = .ok (.invokestatic 32, 3) := by decide +kernel
theorem dX2_addUp_15 : decode cX2_addUp 15 = .ok (.ifCond .ne 11, 3) := by decide +kernel
theorem dX2_addUp_18 : decode cX2_addUp 18 = .ok (.iload_n 1, 1) := by decide +kernel
theorem dX2_addUp_19 : decode cX2_addUp 19 = .ok (.aload_n 0, 1) := by decide +kernel
theorem dX2_addUp_20 : decode cX2_addUp 20 = .ok (.iload_n 2, 1) := by decide +kernel
theorem dX2_addUp_21 : decode cX2_addUp 21 = .ok (.invokevirtual 24, 3) := by decide +kernel
theorem dX2_addUp_24 : decode cX2_addUp 24 = .ok (.iadd, 1) := by decide +kernel
theorem dX2_addUp_25 : decode cX2_addUp 25 = .ok (.istore_n 1, 1) := by decide +kernel
theorem dX2_addUp_26 : decode cX2_addUp 26 = .ok (.aload_n 0, 1) := by decide +kernel
theorem dX2_addUp_27 : decode cX2_addUp 27 = .ok (.iload_n 2, 1) := by decide +kernel
theorem dX2_addUp_28 : decode cX2_addUp 28 = .ok (.iload_n 1, 1) := by decide +kernel
theorem dX2_addUp_29 : decode cX2_addUp 29 = .ok (.invokevirtual 28, 3) := by decide +kernel
theorem dX2_addUp_32 : decode cX2_addUp 32 = .ok (.iinc 2 1, 3) := by decide +kernel
theorem dX2_addUp_35 : decode cX2_addUp 35 = .ok (.goto (-31), 3) := by decide +kernel
theorem dX2_addUp_38 : decode cX2_addUp 38 = .ok (.return_, 1) := by decide +kernel
set_option maxRecDepth 20000 in
theorem ggX2_mirrorOf_X2_at : GoodIn wsX2_mirrorOf wsX2_at := goodIn_r _ [5, 6, 18] (by decide +kernel) (by decide +kernel)
set_option maxRecDepth 20000 in
theorem gX2_mirrorOf_X2_at : GoodIn wsX2_mirrorOf (wsV RX2 24 RX2 yX2_at wsX2_at) := goodIn_app (goodIn_of _ (by decide +kernel)) ggX2_mirrorOf_X2_at
set_option maxRecDepth 20000 in
theorem ggX2_mirrorOf_X2_write : GoodIn wsX2_mirrorOf wsX2_write := goodIn_r _ [10, 6, 11, 12, 13, 14, 15, 16, 17, 18] (by decide +kernel) (by decide +kernel)
set_option maxRecDepth 20000 in
theorem gX2_mirrorOf_X2_write : GoodIn wsX2_mirrorOf (wsV RX2 28 RX2 yX2_write wsX2_write) := goodIn_app (goodIn_of _ (by decide +kernel)) ggX2_mirrorOf_X2_write
theorem dX2_mirrorOf_0 : decode cX2_mirrorOf 0 = .ok (.iconst 0, 1) := by decide +kernel
theorem dX2_mirrorOf_1 : decode cX2_mirrorOf 1 = .ok (.istore_n 2, 1) := by decide +kernel
theorem dX2_mirrorOf_2 : decode cX2_mirrorOf 2 = .ok (.iload_n 2, 1) := by decide +kernel
theorem dX2_mirrorOf_3 : decode cX2_mirrorOf 3 = .ok (.sipush 201, 3) := by decide +kernel
theorem dX2_mirrorOf_6 : decode cX2_mirrorOf 6 = .ok (.if_icmp .ge 23, 3) := by decide +kernel
theorem dX2_mirrorOf_9 : decode cX2_mirrorOf 9 = .ok (.aload_n 0, 1) := by decide +kernel
theorem dX2_mirrorOf_10 : decode cX2_mirrorOf 10 = .ok (.iload_n 2, 1) := by decide +kernel
theorem dX2_mirrorOf_11 : decode cX2_mirrorOf 11 = .ok (.aload_n 1, 1) := by decide +kernel
theorem dX2_mirrorOf_12 : decode cX2_mirrorOf 12 = .ok (.sipush 200, 3) := by decide +kernel
theorem dX2_mirrorOf_15 : decode cX2_mirrorOf 15 = .ok (.iload_n 2, 1) := by decide +kernel
theorem dX2_mirrorOf_16 : decode cX2_mirrorOf 16 = .ok (.isub, 1) := by decide +kernel
theorem dX2_mirrorOf_17 : decode cX2_mirrorOf 17 = .ok (.invokevirtual 24, 3) := by decide +kernel
theorem dX2_mirrorOf_20 : decode cX2_mirrorOf 20 = .ok (.invokevirtual 28, 3) := by decide +kernel
theorem dX2_mirrorOf_23 : decode cX2_mirrorOf 23 = .ok (.iinc 2 1, 3) := by decide +kernel
theorem dX2_mirrorOf_26 : decode cX2_mirrorOf 26 = .ok (.goto (-24), 3) := by decide +kernel
theorem dX2_mirrorOf_29 : decode cX2_mirrorOf 29 = .ok (.return_, 1) := by decide +kernel
set_option maxRecDepth 20000 in
theorem ggX2_greatestNear_X2_greatest : GoodIn wsX2_greatestNear wsX2_greatest := goodIn_r _ [5, 6, 7, 8, 9, 10, 11, 12, 4, 13, 14, 22] (by decide +kernel) (by decide +kernel)
set_option maxRecDepth 20000 in
theorem gX2_greatestNear_X2_greatest : GoodIn wsX2_greatestNear (wsV RX2 36 RX2 yX2_greatest wsX2_greatest) := goodIn_app (goodIn_of _ (by decide +kernel)) ggX2_greatestNear_X2_greatest
set_option maxRecDepth 20000 in
theorem ggX2_greatestNear_X2_write : GoodIn wsX2_greatestNear wsX2_write := goodIn_r _ [18, 14, 19, 20, 8, 21, 6, 7, 9, 22] (by decide +kernel) (by decide +kernel)
set_option maxRecDepth 20000 in
theorem gX2_greatestNear_X2_write : GoodIn wsX2_greatestNear (wsV RX2 28 RX2 yX2_write wsX2_write) := goodIn_app (goodIn_of _ (by decide +kernel)) ggX2_greatestNear_X2_write
theorem dX2_greatestNear_0 : decode cX2_greatestNear 0 = .ok (.iconst 0, 1) := by decide +kernel
theorem dX2_greatestNear_1 : decode cX2_greatestNear 1 = .ok (.istore_n 3, 1) := by decide +kernel
theorem dX2_greatestNear_2 : decode cX2_greatestNear 2 = .ok (.iload_n 3, 1) := by decide +kernel
theorem dX2_greatestNear_3 : decode cX2_greatestNear 3 = .ok (.sipush 201, 3) := by decide +kernel
theorem dX2_greatestNear_6 : decode cX2_greatestNear 6 = .ok (.if_icmp .ge 24, 3) := by decide +kernel
theorem dX2_greatestNear_9 : decode cX2_greatestNear 9 = .ok (.aload_n 0, 1) := by decide +kernel
theorem dX2_greatestNear_10 : decode cX2_greatestNear 10 = .ok (.iload_n 3, 1) := by decide +kernel
theorem dX2_greatestNear_11 : decode cX2_greatestNear 11 = .ok (.aload_n 1, 1) := by decide +kernel
theorem dX2_greatestNear_12 : decode cX2_greatestNear 12 = .ok (.iload_n 3, 1) := by decide +kernel
theorem dX2_greatestNear_13 : decode cX2_greatestNear 13 = .ok (.iload_n 2, 1) := by decide +kernel
theorem dX2_greatestNear_14 : decode cX2_greatestNear 14 = .ok (.isub, 1) := by decide +kernel
theorem dX2_greatestNear_15 : decode cX2_greatestNear 15 = .ok (.iload_n 3, 1) := by decide +kernel
theorem dX2_greatestNear_16 : decode cX2_greatestNear 16 = .ok (.iload_n 2, 1) := by decide +kernel
theorem dX2_greatestNear_17 : decode cX2_greatestNear 17 = .ok (.iadd, 1) := by decide +kernel
theorem dX2_greatestNear_18 : decode cX2_greatestNear 18 = .ok (.invokevirtual 36, 3) := by decide +kernel
theorem dX2_greatestNear_21 : decode cX2_greatestNear 21 = .ok (.invokevirtual 28, 3) := by decide +kernel
theorem dX2_greatestNear_24 : decode cX2_greatestNear 24 = .ok (.iinc 3 1, 3) := by decide +kernel
theorem dX2_greatestNear_27 : decode cX2_greatestNear 27 = .ok (.goto (-25), 3) := by decide +kernel
theorem dX2_greatestNear_30 : decode cX2_greatestNear 30 = .ok (.return_, 1) := by decide +kernel
set_option maxRecDepth 20000 in
theorem ggX2_leastNear_X2_least : GoodIn wsX2_leastNear wsX2_least := goodIn_r _ [5, 6, 7, 8, 9, 10, 11, 12, 13, 14, 15, 4, 16, 17, 22] (by decide +kernel) (by decide +kernel)
set_option maxRecDepth 20000 in
theorem gX2_leastNear_X2_least : GoodIn wsX2_leastNear (wsV RX2 39 RX2 yX2_least wsX2_least) := goodIn_app (goodIn_of _ (by decide +kernel)) ggX2_leastNear_X2_least
set_option maxRecDepth 20000 in
theorem ggX2_leastNear_X2_write : GoodIn wsX2_leastNear wsX2_write := goodIn_r _ [21, 17, 10, 11, 8, 12, 6, 7, 9, 22] (by decide +kernel) (by decide +kernel)
set_option maxRecDepth 20000 in
theorem gX2_leastNear_X2_write : GoodIn wsX2_leastNear (wsV RX2 28 RX2 yX2_write wsX2_write) := goodIn_app (goodIn_of _ (by decide +kernel)) ggX2_leastNear_X2_write
theorem dX2_leastNear_0 : decode cX2_leastNear 0 = .ok (.iconst 0, 1) := by decide +kernel
theorem dX2_leastNear_1 : decode cX2_leastNear 1 = .ok (.istore_n 3, 1) := by decide +kernel
theorem dX2_leastNear_2 : decode cX2_leastNear 2 = .ok (.iload_n 3, 1) := by decide +kernel
theorem dX2_leastNear_3 : decode cX2_leastNear 3 = .ok (.sipush 201, 3) := by decide +kernel
theorem dX2_leastNear_6 : decode cX2_leastNear 6 = .ok (.if_icmp .ge 24, 3) := by decide +kernel
theorem dX2_leastNear_9 : decode cX2_leastNear 9 = .ok (.aload_n 0, 1) := by decide +kernel
theorem dX2_leastNear_10 : decode cX2_leastNear 10 = .ok (.iload_n 3, 1) := by decide +kernel
theorem dX2_leastNear_11 : decode cX2_leastNear 11 = .ok (.aload_n 1, 1) := by decide +kernel
theorem dX2_leastNear_12 : decode cX2_leastNear 12 = .ok (.iload_n 3, 1) := by decide +kernel
theorem dX2_leastNear_13 : decode cX2_leastNear 13 = .ok (.iload_n 2, 1) := by decide +kernel
theorem dX2_leastNear_14 : decode cX2_leastNear 14 = .ok (.isub, 1) := by decide +kernel
theorem dX2_leastNear_15 : decode cX2_leastNear 15 = .ok (.iload_n 3, 1) := by decide +kernel
theorem dX2_leastNear_16 : decode cX2_leastNear 16 = .ok (.iload_n 2, 1) := by decide +kernel
theorem dX2_leastNear_17 : decode cX2_leastNear 17 = .ok (.iadd, 1) := by decide +kernel
theorem dX2_leastNear_18 : decode cX2_leastNear 18 = .ok (.invokevirtual 39, 3) := by decide +kernel
theorem dX2_leastNear_21 : decode cX2_leastNear 21 = .ok (.invokevirtual 28, 3) := by decide +kernel
theorem dX2_leastNear_24 : decode cX2_leastNear 24 = .ok (.iinc 3 1, 3) := by decide +kernel
theorem dX2_leastNear_27 : decode cX2_leastNear 27 = .ok (.goto (-25), 3) := by decide +kernel
theorem dX2_leastNear_30 : decode cX2_leastNear 30 = .ok (.return_, 1) := by decide +kernel
set_option maxRecDepth 20000 in
theorem ggX3_init_X0_init : GoodIn wsX3_init wsX0_init := goodIn_r _ [21, 22, 2, 3, 23, 24, 41] (by decide +kernel) (by decide +kernel)
set_option maxRecDepth 20000 in
theorem gX3_init_X0_init_n21 : GoodIn wsX3_init (wsX0_init) := ggX3_init_X0_init
set_option maxRecDepth 20000 in
theorem ggX3_init_X2_init : GoodIn wsX3_init wsX2_init := goodIn_r _ [26, 27, 2, 3, 18, 28, 42] (by decide +kernel) (by decide +kernel)
set_option maxRecDepth 20000 in
theorem gX3_init_X2_init_n26 : GoodIn wsX3_init (wsX2_init) := ggX3_init_X2_init
set_option maxRecDepth 20000 in
theorem ggX3_init_X1_init : GoodIn wsX3_init wsX1_init := goodIn_r _ [30, 31, 2, 3, 18, 32, 33, 34, 43, 44, 45] (by decide +kernel) (by decide +kernel)
set_option maxRecDepth 20000 in
theorem gX3_init_X1_init_n33 : GoodIn wsX3_init (wsX1_init) := ggX3_init_X1_init
