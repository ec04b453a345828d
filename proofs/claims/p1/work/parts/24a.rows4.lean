theorem dX4_init_0 : decode cX4_init 0 = .ok (.aload_n 0, 1) := by decide +kernel
theorem dX4_init_1 : decode cX4_init 1 = .ok (.invokespecial 1, 3) := by decide +kernel
theorem dX4_init_4 : decode cX4_init 4 = .ok (.aload_n 0, 1) := by decide +kernel
theorem dX4_init_5 : decode cX4_init 5 = .ok (.bipush 8, 2) := by decide +kernel
theorem dX4_init_7 : decode cX4_init 7 = .ok (.sipush 201, 3) := by decide +kernel
theorem dX4_init_10 : decode cX4_init 10 = .ok (.multianewarray 9 2, 4) := by decide +kernel
theorem dX4_init_14 : decode cX4_init 14 = .ok (.putfield 11, 3) := by decide +kernel
theorem dX4_init_17 : decode cX4_init 17 = .ok (.aload_n 0, 1) := by decide +kernel
theorem dX4_init_18 : decode cX4_init 18 = .ok (.iconst 5, 1) := by decide +kernel
theorem dX4_init_19 : decode cX4_init 19 = .ok (.sipush 201, 3) := by decide +kernel
theorem dX4_init_22 : decode cX4_init 22 = .ok (.multianewarray 14 2, 4) := by decide +kernel
theorem dX4_init_26 : decode cX4_init 26 = .ok (.putfield 16, 3) := by decide +kernel
theorem dX4_init_29 : decode cX4_init 29 = .ok (.return_, 1) := by decide +kernel
theorem dX4_thrown_0 : decode cX4_thrown 0 = .ok (.aload_n 0, 1) := by decide +kernel
theorem dX4_thrown_1 : decode cX4_thrown 1 = .ok (.getfield 19, 3) := by decide +kernel
theorem dX4_thrown_4 : decode cX4_thrown 4 = .ok (.ireturn, 1) := by decide +kernel
theorem dX4_no_0 : decode cX4_no 0 = .ok (.aload_n 0, 1) := by decide +kernel
theorem dX4_no_1 : decode cX4_no 1 = .ok (.iload_n 1, 1) := by decide +kernel
theorem dX4_no_2 : decode cX4_no 2 = .ok (.putfield 19, 3) := by decide +kernel
theorem dX4_no_5 : decode cX4_no 5 = .ok (.iconst 0, 1) := by decide +kernel
theorem dX4_no_6 : decode cX4_no 6 = .ok (.ireturn, 1) := by decide +kernel
theorem dX4_isIn_0 : decode cX4_isIn 0 = .ok (.iload_n 0, 1) := by decide +kernel
theorem dX4_isIn_1 : decode cX4_isIn 1 = .ok (.iload_n 1, 1) := by decide +kernel
theorem dX4_isIn_2 : decode cX4_isIn 2 = .ok (.if_icmp .lt 12, 3) := by decide +kernel
theorem dX4_isIn_5 : decode cX4_isIn 5 = .ok (.iload_n 0, 1) := by decide +kernel
theorem dX4_isIn_6 : decode cX4_isIn 6 = .ok (.iload_n 2, 1) := by decide +kernel
theorem dX4_isIn_7 : decode cX4_isIn 7 = .ok (.if_icmp .gt 7, 3) := by decide +kernel
theorem dX4_isIn_10 : decode cX4_isIn 10 = .ok (.iconst 1, 1) := by decide +kernel
theorem dX4_isIn_11 : decode cX4_isIn 11 = .ok (.goto 4, 3) := by decide +kernel
theorem dX4_isIn_14 : decode cX4_isIn 14 = .ok (.iconst 0, 1) := by decide +kernel
theorem dX4_isIn_15 : decode cX4_isIn 15 = .ok (.ireturn, 1) := by decide +kernel
set_option maxRecDepth 20000 in
theorem ggX4_isSet_X4_isIn : GoodIn wsX4_isSet wsX4_isIn := goodIn_r _ [4] (by decide +kernel) (by decide +kernel)
set_option maxRecDepth 20000 in
theorem gX4_isSet_X4_isIn : GoodIn wsX4_isSet (va_wsS RX4 23 yX4_isIn wsX4_isIn) := goodIn_app (goodIn_of _ (by decide +kernel)) ggX4_isSet_X4_isIn
theorem dX4_isSet_0 : decode cX4_isSet 0 = .ok (.iload_n 0, 1) := by decide +kernel
theorem dX4_isSet_1 : decode cX4_isSet 1 = .ok (.iconst 0, 1) := by decide +kernel
theorem dX4_isSet_2 : decode cX4_isSet 2 = .ok (.bipush 7, 2) := by decide +kernel
theorem dX4_isSet_4 : decode cX4_isSet 4 = .ok (.invokestatic 23, 3) := by decide +kernel
theorem dX4_isSet_7 : decode cX4_isSet 7 = .ok (.ireturn, 1) := by decide +kernel
set_option maxRecDepth 20000 in
theorem ggX4_isFunction_X4_isIn : GoodIn wsX4_isFunction wsX4_isIn := goodIn_r _ [4] (by decide +kernel) (by decide +kernel)
set_option maxRecDepth 20000 in
theorem gX4_isFunction_X4_isIn : GoodIn wsX4_isFunction (va_wsS RX4 23 yX4_isIn wsX4_isIn) := goodIn_app (goodIn_of _ (by decide +kernel)) ggX4_isFunction_X4_isIn
theorem dX4_isFunction_0 : decode cX4_isFunction 0 = .ok (.iload_n 0, 1) := by decide +kernel
theorem dX4_isFunction_1 : decode cX4_isFunction 1 = .ok (.iconst 0, 1) := by decide +kernel
theorem dX4_isFunction_2 : decode cX4_isFunction 2 = .ok (.iconst 4, 1) := by decide +kernel
theorem dX4_isFunction_3 : decode cX4_isFunction 3 = .ok (.invokestatic 23, 3) := by decide +kernel
theorem dX4_isFunction_6 : decode cX4_isFunction 6 = .ok (.ireturn, 1) := by decide +kernel
set_option maxRecDepth 20000 in
theorem ggX4_isSpan_X4_isIn : GoodIn wsX4_isSpan wsX4_isIn := goodIn_r _ [4] (by decide +kernel) (by decide +kernel)
set_option maxRecDepth 20000 in
theorem gX4_isSpan_X4_isIn : GoodIn wsX4_isSpan (va_wsS RX4 23 yX4_isIn wsX4_isIn) := goodIn_app (goodIn_of _ (by decide +kernel)) ggX4_isSpan_X4_isIn
theorem dX4_isSpan_0 : decode cX4_isSpan 0 = .ok (.iload_n 0, 1) := by decide +kernel
theorem dX4_isSpan_1 : decode cX4_isSpan 1 = .ok (.ifCond .lt 27, 3) := by decide +kernel
theorem dX4_isSpan_4 : decode cX4_isSpan 4 = .ok (.iload_n 1, 1) := by decide +kernel
theorem dX4_isSpan_5 : decode cX4_isSpan 5 = .ok (.bipush 100, 2) := by decide +kernel
theorem dX4_isSpan_7 : decode cX4_isSpan 7 = .ok (.if_icmp .gt 21, 3) := by decide +kernel
theorem dX4_isSpan_10 : decode cX4_isSpan 10 = .ok (.iload_n 0, 1) := by decide +kernel
theorem dX4_isSpan_11 : decode cX4_isSpan 11 = .ok (.iload_n 1, 1) := by decide +kernel
theorem dX4_isSpan_12 : decode cX4_isSpan 12 = .ok (.if_icmp .gt 16, 3) := by decide +kernel
theorem dX4_isSpan_15 : decode cX4_isSpan 15 = .ok (.iload_n 2, 1) := by decide +kernel
theorem dX4_isSpan_16 : decode cX4_isSpan 16 = .ok (.iconst 0, 1) := by decide +kernel
theorem dX4_isSpan_17 : decode cX4_isSpan 17 = .ok (.iconst 3, 1) := by decide +kernel
theorem dX4_isSpan_18 : decode cX4_isSpan 18 = .ok (.invokestatic 23, 3) := by decide +kernel
theorem dX4_isSpan_21 : decode cX4_isSpan 21 = .ok (.ifCond .eq 7, 3) := by decide +kernel
theorem dX4_isSpan_24 : decode cX4_isSpan 24 = .ok (.iconst 1, 1) := by decide +kernel
theorem dX4_isSpan_25 : decode cX4_isSpan 25 = .ok (.goto 4, 3) := by decide +kernel
theorem dX4_isSpan_28 : decode cX4_isSpan 28 = .ok (.iconst 0, 1) := by decide +kernel
theorem dX4_isSpan_29 : decode cX4_isSpan 29 = .ok (.ireturn, 1) := by decide +kernel
set_option maxRecDepth 20000 in
theorem ggX4_isWithin_X4_isIn : GoodIn wsX4_isWithin wsX4_isIn := goodIn_r _ [4] (by decide +kernel) (by decide +kernel)
set_option maxRecDepth 20000 in
theorem gX4_isWithin_X4_isIn : GoodIn wsX4_isWithin (va_wsS RX4 23 yX4_isIn wsX4_isIn) := goodIn_app (goodIn_of _ (by decide +kernel)) ggX4_isWithin_X4_isIn
theorem dX4_isWithin_0 : decode cX4_isWithin 0 = .ok (.iload_n 1, 1) := by decide +kernel
theorem dX4_isWithin_1 : decode cX4_isWithin 1 = .ok (.iload_n 2, 1) := by decide +kernel
theorem dX4_isWithin_2 : decode cX4_isWithin 2 = .ok (.if_icmp .ne 16, 3) := by decide +kernel
theorem dX4_isWithin_5 : decode cX4_isWithin 5 = .ok (.iload_n 0, 1) := by decide +kernel
theorem dX4_isWithin_6 : decode cX4_isWithin 6 = .ok (.iconst 2, 1) := by decide +kernel
theorem dX4_isWithin_7 : decode cX4_isWithin 7 = .ok (.iload_n 1, 1) := by decide +kernel
theorem dX4_isWithin_8 : decode cX4_isWithin 8 = .ok (.imul, 1) := by decide +kernel
theorem dX4_isWithin_9 : decode cX4_isWithin 9 = .ok (.if_icmp .ne 7, 3) := by decide +kernel
theorem dX4_isWithin_12 : decode cX4_isWithin 12 = .ok (.iconst 1, 1) := by decide +kernel
theorem dX4_isWithin_13 : decode cX4_isWithin 13 = .ok (.goto 4, 3) := by decide +kernel
theorem dX4_isWithin_16 : decode cX4_isWithin 16 = .ok (.iconst 0, 1) := by decide +kernel
theorem dX4_isWithin_17 : decode cX4_isWithin 17 = .ok (.ireturn, 1) := by decide +kernel
theorem dX4_isWithin_18 : decode cX4_isWithin 18 = .ok (.iconst 2, 1) := by decide +kernel
theorem dX4_isWithin_19 : decode cX4_isWithin 19 = .ok (.iload_n 1, 1) := by decide +kernel
theorem dX4_isWithin_20 : decode cX4_isWithin 20 = .ok (.imul, 1) := by decide +kernel
theorem dX4_isWithin_21 : decode cX4_isWithin 21 = .ok (.iload_n 3, 1) := by decide +kernel
theorem dX4_isWithin_22 : decode cX4_isWithin 22 = .ok (.iconst 2, 1) := by decide +kernel
theorem dX4_isWithin_23 : decode cX4_isWithin 23 = .ok (.irem, 1) := by decide +kernel
theorem dX4_isWithin_24 : decode cX4_isWithin 24 = .ok (.iconst 1, 1) := by decide +kernel
theorem dX4_isWithin_25 : decode cX4_isWithin 25 = .ok (.if_icmp .ne 7, 3) := by decide +kernel
theorem dX4_isWithin_28 : decode cX4_isWithin 28 = .ok (.iconst 0, 1) := by decide +kernel
theorem dX4_isWithin_29 : decode cX4_isWithin 29 = .ok (.goto 4, 3) := by decide +kernel
theorem dX4_isWithin_32 : decode cX4_isWithin 32 = .ok (.iconst 1, 1) := by decide +kernel
theorem dX4_isWithin_33 : decode cX4_isWithin 33 = .ok (.iadd, 1) := by decide +kernel
theorem dX4_isWithin_34 : decode cX4_isWithin 34 = .ok (.istore 4, 2) := by decide +kernel
theorem dX4_isWithin_36 : decode cX4_isWithin 36 = .ok (.iconst 2, 1) := by decide +kernel
theorem dX4_isWithin_37 : decode cX4_isWithin 37 = .ok (.iload_n 2, 1) := by decide +kernel
theorem dX4_isWithin_38 : decode cX4_isWithin 38 = .ok (.imul, 1) := by decide +kernel
theorem dX4_isWithin_39 : decode cX4_isWithin 39 = .ok (.iload_n 3, 1) := by decide +kernel
theorem dX4_isWithin_40 : decode cX4_isWithin 40 = .ok (.iconst 1, 1) := by decide +kernel
theorem dX4_isWithin_41 : decode cX4_isWithin 41 = .ok (.if_icmp .le 7, 3) := by decide +kernel
theorem dX4_isWithin_44 : decode cX4_isWithin 44 = .ok (.iconst 0, 1) := by decide +kernel
theorem dX4_isWithin_45 : decode cX4_isWithin 45 = .ok (.goto 4, 3) := by decide +kernel
theorem dX4_isWithin_48 : decode cX4_isWithin 48 = .ok (.iconst 1, 1) := by decide +kernel
theorem dX4_isWithin_49 : decode cX4_isWithin 49 = .ok (.isub, 1) := by decide +kernel
theorem dX4_isWithin_50 : decode cX4_isWithin 50 = .ok (.istore 5, 2) := by decide +kernel
theorem dX4_isWithin_52 : decode cX4_isWithin 52 = .ok (.iload_n 0, 1) := by decide +kernel
theorem dX4_isWithin_53 : decode cX4_isWithin 53 = .ok (.iload 4, 2) := by decide +kernel
theorem dX4_isWithin_55 : decode cX4_isWithin 55 = .ok (.iload 5, 2) := by decide +kernel
theorem dX4_isWithin_57 : decode cX4_isWithin 57 = .ok (.invokestatic 23, 3) := by decide +kernel
theorem dX4_isWithin_60 : decode cX4_isWithin 60 = .ok (.ireturn, 1) := by decide +kernel
theorem dX4_count_0 : decode cX4_count 0 = .ok (.iconst 0, 1) := by decide +kernel
theorem dX4_count_1 : decode cX4_count 1 = .ok (.istore_n 1, 1) := by decide +kernel
theorem dX4_count_2 : decode cX4_count 2 = .ok (.aload_n 0, 1) := by decide +kernel
theorem dX4_count_3 : decode cX4_count 3 = .ok (.astore_n 2, 1) := by decide +kernel
theorem dX4_count_4 : decode cX4_count 4 = .ok (.aload_n 2, 1) := by decide +kernel
theorem dX4_count_5 : decode cX4_count 5 = .ok (.arraylength, 1) := by decide +kernel
theorem dX4_count_6 : decode cX4_count 6 = .ok (.istore_n 3, 1) := by decide +kernel
theorem dX4_count_7 : decode cX4_count 7 = .ok (.iconst 0, 1) := by decide +kernel
theorem dX4_count_8 : decode cX4_count 8 = .ok (.istore 4, 2) := by decide +kernel
theorem dX4_count_10 : decode cX4_count 10 = .ok (.iload 4, 2) := by decide +kernel
theorem dX4_count_12 : decode cX4_count 12 = .ok (.iload_n 3, 1) := by decide +kernel
theorem dX4_count_13 : decode cX4_count 13 = .ok (.if_icmp .ge 28, 3) := by decide +kernel
theorem dX4_count_16 : decode cX4_count 16 = .ok (.aload_n 2, 1) := by decide +kernel
theorem dX4_count_17 : decode cX4_count 17 = .ok (.iload 4, 2) := by decide +kernel
theorem dX4_count_19 : decode cX4_count 19 = .ok (.baload, 1) := by decide +kernel
theorem dX4_count_20 : decode cX4_count 20 = .ok (.istore 5, 2) := by decide +kernel
theorem dX4_count_22 : decode cX4_count 22 = .ok (.iload_n 1, 1) := by decide +kernel
theorem dX4_count_23 : decode cX4_count 23 = .ok (.iload 5, 2) := by decide +kernel
theorem dX4_count_25 : decode cX4_count 25 = .ok (.ifCond .eq 7, 3) := by decide +kernel
theorem dX4_count_28 : decode cX4_count 28 = .ok (.iconst 1, 1) := by decide +kernel
theorem dX4_count_29 : decode cX4_count 29 = .ok (.goto 4, 3) := by decide +kernel
theorem dX4_count_32 : decode cX4_count 32 = .ok (.iconst 0, 1) := by decide +kernel
theorem dX4_count_33 : decode cX4_count 33 = .ok (.iadd, 1) := by decide +kernel
theorem dX4_count_34 : decode cX4_count 34 = .ok (.istore_n 1, 1) := by decide +kernel
theorem dX4_count_35 : decode cX4_count 35 = .ok (.iinc 4 1, 3) := by decide +kernel
theorem dX4_count_38 : decode cX4_count 38 = .ok (.goto (-28), 3) := by decide +kernel
theorem dX4_count_41 : decode cX4_count 41 = .ok (.iload_n 1, 1) := by decide +kernel
theorem dX4_count_42 : decode cX4_count 42 = .ok (.ireturn, 1) := by decide +kernel
theorem dX4_first_0 : decode cX4_first 0 = .ok (.iload_n 1, 1) := by decide +kernel
theorem dX4_first_1 : decode cX4_first 1 = .ok (.istore_n 3, 1) := by decide +kernel
theorem dX4_first_2 : decode cX4_first 2 = .ok (.iload_n 3, 1) := by decide +kernel
theorem dX4_first_3 : decode cX4_first 3 = .ok (.sipush 201, 3) := by decide +kernel
theorem dX4_first_6 : decode cX4_first 6 = .ok (.if_icmp .ge 16, 3) := by decide +kernel
theorem dX4_first_9 : decode cX4_first 9 = .ok (.aload_n 0, 1) := by decide +kernel
theorem dX4_first_10 : decode cX4_first 10 = .ok (.iload_n 3, 1) := by decide +kernel
theorem dX4_first_11 : decode cX4_first 11 = .ok (.baload, 1) := by decide +kernel
theorem dX4_first_12 : decode cX4_first 12 = .ok (.iload_n 2, 1) := by decide +kernel
theorem dX4_first_13 : decode cX4_first 13 = .ok (.if_icmp .eq 9, 3) := by decide +kernel
theorem dX4_first_16 : decode cX4_first 16 = .ok (.iinc 3 1, 3) := by decide +kernel
theorem dX4_first_19 : decode cX4_first 19 = .ok (.goto (-17), 3) := by decide +kernel
theorem dX4_first_22 : decode cX4_first 22 = .ok (.iload_n 3, 1) := by decide +kernel
theorem dX4_first_23 : decode cX4_first 23 = .ok (.ireturn, 1) := by decide +kernel
theorem dX4_others_0 : decode cX4_others 0 = .ok (.sipush 201, 3) := by decide +kernel
theorem dX4_others_3 : decode cX4_others 3 = .ok (.newarray .boolean, 2) := by decide +kernel
theorem dX4_others_5 : decode cX4_others 5 = .ok (.astore_n 1, 1) := by decide +kernel
theorem dX4_others_6 : decode cX4_others 6 = .ok (.iconst 0, 1) := by decide +kernel
theorem dX4_others_7 : decode cX4_others 7 = .ok (.istore_n 2, 1) := by decide +kernel
theorem dX4_others_8 : decode cX4_others 8 = .ok (.iload_n 2, 1) := by decide +kernel
theorem dX4_others_9 : decode cX4_others 9 = .ok (.sipush 201, 3) := by decide +kernel
theorem dX4_others_12 : decode cX4_others 12 = .ok (.if_icmp .ge 23, 3) := by decide +kernel
theorem dX4_others_15 : decode cX4_others 15 = .ok (.aload_n 1, 1) := by decide +kernel
theorem dX4_others_16 : decode cX4_others 16 = .ok (.iload_n 2, 1) := by decide +kernel
theorem dX4_others_17 : decode cX4_others 17 = .ok (.aload_n 0, 1) := by decide +kernel
theorem dX4_others_18 : decode cX4_others 18 = .ok (.iload_n 2, 1) := by decide +kernel
theorem dX4_others_19 : decode cX4_others 19 = .ok (.baload, 1) := by decide +kernel
theorem dX4_others_20 : decode cX4_others 20 = .ok (.ifCond .ne 7, 3) := by decide +kernel
theorem dX4_others_23 : decode cX4_others 23 = .ok (.iconst 1, 1) := by decide +kernel
theorem dX4_others_24 : decode cX4_others 24 = .ok (.goto 4, 3) := by decide +kernel
theorem dX4_others_27 : decode cX4_others 27 = .ok (.iconst 0, 1) := by decide +kernel
theorem dX4_others_28 : decode cX4_others 28 = .ok (.bastore, 1) := by decide +kernel
theorem dX4_others_29 : decode cX4_others 29 = .ok (.iinc 2 1, 3) := by decide +kernel
theorem dX4_others_32 : decode cX4_others 32 = .ok (.goto (-24), 3) := by decide +kernel
theorem dX4_others_35 : decode cX4_others 35 = .ok (.aload_n 1, 1) := by decide +kernel
theorem dX4_others_36 : decode cX4_others 36 = .ok (.areturn, 1) := by decide +kernel
set_option maxRecDepth 20000 in
theorem ggX4_spans_X4_first : GoodIn wsX4_spans wsX4_first := goodIn_r _ [4] (by decide +kernel) (by decide +kernel)
set_option maxRecDepth 20000 in
theorem gX4_spans_X4_first : GoodIn wsX4_spans (va_wsS RX4 27 yX4_first wsX4_first) := goodIn_app (goodIn_of _ (by decide +kernel)) ggX4_spans_X4_first
theorem dX4_spans_0 : decode cX4_spans 0 = .ok (.iconst 0, 1) := by decide +kernel
theorem dX4_spans_1 : decode cX4_spans 1 = .ok (.istore_n 1, 1) := by decide +kernel
theorem dX4_spans_2 : decode cX4_spans 2 = .ok (.aload_n 0, 1) := by decide +kernel
theorem dX4_spans_3 : decode cX4_spans 3 = .ok (.iconst 0, 1) := by decide +kernel
theorem dX4_spans_4 : decode cX4_spans 4 = .ok (.iconst 1, 1) := by decide +kernel
theorem dX4_spans_5 : decode cX4_spans 5 = .ok (.invokestatic 27, 3) := by decide +kernel
theorem dX4_spans_8 : decode cX4_spans 8 = .ok (.istore_n 2, 1) := by decide +kernel
theorem dX4_spans_9 : decode cX4_spans 9 = .ok (.iload_n 2, 1) := by decide +kernel
theorem dX4_spans_10 : decode cX4_spans 10 = .ok (.sipush 201, 3) := by decide +kernel
theorem dX4_spans_13 : decode cX4_spans 13 = .ok (.if_icmp .ge 21, 3) := by decide +kernel
theorem dX4_spans_16 : decode cX4_spans 16 = .ok (.iinc 1 1, 3) := by decide +kernel
theorem dX4_spans_19 : decode cX4_spans 19 = .ok (.aload_n 0, 1) := by decide +kernel
theorem dX4_spans_20 : decode cX4_spans 20 = .ok (.aload_n 0, 1) := by decide +kernel
theorem dX4_spans_21 : decode cX4_spans 21 = .ok (.iload_n 2, 1) := by decide +kernel
theorem dX4_spans_22 : decode cX4_spans 22 = .ok (.iconst 0, 1) := by decide +kernel
theorem dX4_spans_23 : decode cX4_spans 23 = .ok (.invokestatic 27, 3) := by decide +kernel
theorem dX4_spans_26 : decode cX4_spans 26 = .ok (.iconst 1, 1) := by decide +kernel
theorem dX4_spans_27 : decode cX4_spans 27 = .ok (.invokestatic 27, 3) := by decide +kernel
theorem dX4_spans_30 : decode cX4_spans 30 = .ok (.istore_n 2, 1) := by decide +kernel
theorem dX4_spans_31 : decode cX4_spans 31 = .ok (.goto (-22), 3) := by decide +kernel
theorem dX4_spans_34 : decode cX4_spans 34 = .ok (.iload_n 1, 1) := by decide +kernel
theorem dX4_spans_35 : decode cX4_spans 35 = .ok (.ireturn, 1) := by decide +kernel
set_option maxRecDepth 20000 in
theorem ggX4_begin_X4_first : GoodIn wsX4_begin wsX4_first := goodIn_r _ [4] (by decide +kernel) (by decide +kernel)
set_option maxRecDepth 20000 in
theorem gX4_begin_X4_first : GoodIn wsX4_begin (va_wsS RX4 27 yX4_first wsX4_first) := goodIn_app (goodIn_of _ (by decide +kernel)) ggX4_begin_X4_first
theorem dX4_begin_0 : decode cX4_begin 0 = .ok (.aload_n 0, 1) := by decide +kernel
theorem dX4_begin_1 : decode cX4_begin 1 = .ok (.iconst 0, 1) := by decide +kernel
theorem dX4_begin_2 : decode cX4_begin 2 = .ok (.iconst 1, 1) := by decide +kernel
theorem dX4_begin_3 : decode cX4_begin 3 = .ok (.invokestatic 27, 3) := by decide +kernel
theorem dX4_begin_6 : decode cX4_begin 6 = .ok (.istore_n 2, 1) := by decide +kernel
theorem dX4_begin_7 : decode cX4_begin 7 = .ok (.iconst 0, 1) := by decide +kernel
theorem dX4_begin_8 : decode cX4_begin 8 = .ok (.istore_n 3, 1) := by decide +kernel
theorem dX4_begin_9 : decode cX4_begin 9 = .ok (.iload_n 3, 1) := by decide +kernel
theorem dX4_begin_10 : decode cX4_begin 10 = .ok (.iload_n 1, 1) := by decide +kernel
theorem dX4_begin_11 : decode cX4_begin 11 = .ok (.if_icmp .ge 28, 3) := by decide +kernel
theorem dX4_begin_14 : decode cX4_begin 14 = .ok (.iload_n 2, 1) := by decide +kernel
theorem dX4_begin_15 : decode cX4_begin 15 = .ok (.sipush 201, 3) := by decide +kernel
theorem dX4_begin_18 : decode cX4_begin 18 = .ok (.if_icmp .ge 21, 3) := by decide +kernel
theorem dX4_begin_21 : decode cX4_begin 21 = .ok (.aload_n 0, 1) := by decide +kernel
theorem dX4_begin_22 : decode cX4_begin 22 = .ok (.aload_n 0, 1) := by decide +kernel
theorem dX4_begin_23 : decode cX4_begin 23 = .ok (.iload_n 2, 1) := by decide +kernel
theorem dX4_begin_24 : decode cX4_begin 24 = .ok (.iconst 0, 1) := by decide +kernel
theorem dX4_begin_25 : decode cX4_begin 25 = .ok (.invokestatic 27, 3) := by decide +kernel
theorem dX4_begin_28 : decode cX4_begin 28 = .ok (.iconst 1, 1) := by decide +kernel
theorem dX4_begin_29 : decode cX4_begin 29 = .ok (.invokestatic 27, 3) := by decide +kernel
theorem dX4_begin_32 : decode cX4_begin 32 = .ok (.istore_n 2, 1) := by decide +kernel
theorem dX4_begin_33 : decode cX4_begin 33 = .ok (.iinc 3 1, 3) := by decide +kernel
theorem dX4_begin_36 : decode cX4_begin 36 = .ok (.goto (-27), 3) := by decide +kernel
theorem dX4_begin_39 : decode cX4_begin 39 = .ok (.iload_n 2, 1) := by decide +kernel
theorem dX4_begin_40 : decode cX4_begin 40 = .ok (.ireturn, 1) := by decide +kernel
theorem dX4_longOf_0 : decode cX4_longOf 0 = .ok (.iload_n 1, 1) := by decide +kernel
theorem dX4_longOf_1 : decode cX4_longOf 1 = .ok (.iconst 1, 1) := by decide +kernel
theorem dX4_longOf_2 : decode cX4_longOf 2 = .ok (.iadd, 1) := by decide +kernel
theorem dX4_longOf_3 : decode cX4_longOf 3 = .ok (.iconst 2, 1) := by decide +kernel
theorem dX4_longOf_4 : decode cX4_longOf 4 = .ok (.idiv, 1) := by decide +kernel
theorem dX4_longOf_5 : decode cX4_longOf 5 = .ok (.iload_n 0, 1) := by decide +kernel
theorem dX4_longOf_6 : decode cX4_longOf 6 = .ok (.iconst 2, 1) := by decide +kernel
theorem dX4_longOf_7 : decode cX4_longOf 7 = .ok (.idiv, 1) := by decide +kernel
theorem dX4_longOf_8 : decode cX4_longOf 8 = .ok (.isub, 1) := by decide +kernel
theorem dX4_longOf_9 : decode cX4_longOf 9 = .ok (.ireturn, 1) := by decide +kernel
theorem dX4_longOf__0 : decode cX4_longOf_ 0 = .ok (.iconst 0, 1) := by decide +kernel
theorem dX4_longOf__1 : decode cX4_longOf_ 1 = .ok (.istore_n 1, 1) := by decide +kernel
theorem dX4_longOf__2 : decode cX4_longOf_ 2 = .ok (.iconst 1, 1) := by decide +kernel
theorem dX4_longOf__3 : decode cX4_longOf_ 3 = .ok (.istore_n 2, 1) := by decide +kernel
theorem dX4_longOf__4 : decode cX4_longOf_ 4 = .ok (.iload_n 2, 1) := by decide +kernel
theorem dX4_longOf__5 : decode cX4_longOf_ 5 = .ok (.sipush 201, 3) := by decide +kernel
theorem dX4_longOf__8 : decode cX4_longOf_ 8 = .ok (.if_icmp .ge 23, 3) := by decide +kernel
theorem dX4_longOf__11 : decode cX4_longOf_ 11 = .ok (.iload_n 1, 1) := by decide +kernel
theorem dX4_longOf__12 : decode cX4_longOf_ 12 = .ok (.aload_n 0, 1) := by decide +kernel
theorem dX4_longOf__13 : decode cX4_longOf_ 13 = .ok (.iload_n 2, 1) := by decide +kernel
theorem dX4_longOf__14 : decode cX4_longOf_ 14 = .ok (.baload, 1) := by decide +kernel
theorem dX4_longOf__15 : decode cX4_longOf_ 15 = .ok (.ifCond .eq 7, 3) := by decide +kernel
theorem dX4_longOf__18 : decode cX4_longOf_ 18 = .ok (.iconst 1, 1) := by decide +kernel
theorem dX4_longOf__19 : decode cX4_longOf_ 19 = .ok (.goto 4, 3) := by decide +kernel
theorem dX4_longOf__22 : decode cX4_longOf_ 22 = .ok (.iconst 0, 1) := by decide +kernel
theorem dX4_longOf__23 : decode cX4_longOf_ 23 = .ok (.iadd, 1) := by decide +kernel
theorem dX4_longOf__24 : decode cX4_longOf_ 24 = .ok (.istore_n 1, 1) := by decide +kernel
theorem dX4_longOf__25 : decode cX4_longOf_ 25 = .ok (.iinc 2 2, 3) := by decide +kernel
theorem dX4_longOf__28 : decode cX4_longOf_ 28 = .ok (.goto (-24), 3) := by decide +kernel
theorem dX4_longOf__31 : decode cX4_longOf_ 31 = .ok (.iload_n 1, 1) := by decide +kernel
theorem dX4_longOf__32 : decode cX4_longOf_ 32 = .ok (.ireturn, 1) := by decide +kernel
set_option maxRecDepth 20000 in
theorem ggX4_longest_X4_first : GoodIn wsX4_longest wsX4_first := goodIn_r _ [8] (by decide +kernel) (by decide +kernel)
set_option maxRecDepth 20000 in
theorem gX4_longest_X4_first : GoodIn wsX4_longest (va_wsS RX4 27 yX4_first wsX4_first) := goodIn_app (goodIn_of _ (by decide +kernel)) ggX4_longest_X4_first
set_option maxRecDepth 20000 in
theorem ggX4_longest_X4_longOf : GoodIn wsX4_longest wsX4_longOf := goodIn_r _ [11] (by decide +kernel) (by decide +kernel)
set_option maxRecDepth 20000 in
theorem gX4_longest_X4_longOf : GoodIn wsX4_longest (va_wsS RX4 31 yX4_longOf wsX4_longOf) := goodIn_app (goodIn_of _ (by decide +kernel)) ggX4_longest_X4_longOf
theorem dX4_longest_0 : decode cX4_longest 0 = .ok (.iconst 0, 1) := by decide +kernel
theorem dX4_longest_1 : decode cX4_longest 1 = .ok (.istore_n 1, 1) := by decide +kernel
theorem dX4_longest_2 : decode cX4_longest 2 = .ok (.aload_n 0, 1) := by decide +kernel
theorem dX4_longest_3 : decode cX4_longest 3 = .ok (.iconst 0, 1) := by decide +kernel
theorem dX4_longest_4 : decode cX4_longest 4 = .ok (.iconst 1, 1) := by decide +kernel
theorem dX4_longest_5 : decode cX4_longest 5 = .ok (.invokestatic 27, 3) := by decide +kernel
theorem dX4_longest_8 : decode cX4_longest 8 = .ok (.istore_n 2, 1) := by decide +kernel
theorem dX4_longest_9 : decode cX4_longest 9 = .ok (.iload_n 2, 1) := by decide +kernel
theorem dX4_longest_10 : decode cX4_longest 10 = .ok (.sipush 201, 3) := by decide +kernel
theorem dX4_longest_13 : decode cX4_longest 13 = .ok (.if_icmp .ge 35, 3) := by decide +kernel
theorem dX4_longest_16 : decode cX4_longest 16 = .ok (.iload_n 1, 1) := by decide +kernel
theorem dX4_longest_17 : decode cX4_longest 17 = .ok (.iload_n 2, 1) := by decide +kernel
theorem dX4_longest_18 : decode cX4_longest 18 = .ok (.aload_n 0, 1) := by decide +kernel
theorem dX4_longest_19 : decode cX4_longest 19 = .ok (.iload_n 2, 1) := by decide +kernel
theorem dX4_longest_20 : decode cX4_longest 20 = .ok (.iconst 0, 1) := by decide +kernel
theorem dX4_longest_21 : decode cX4_longest 21 = .ok (.invokestatic 27, 3) := by decide +kernel
theorem dX4_longest_24 : decode cX4_longest 24 = .ok (.iconst 1, 1) := by decide +kernel
theorem dX4_longest_25 : decode cX4_longest 25 = .ok (.isub, 1) := by decide +kernel
theorem dX4_longest_26 : decode cX4_longest 26 = .ok (.invokestatic 31, 3) := by decide +kernel
theorem dX4_longest_29 : decode cX4_longest 29 = .ok (.invokestatic 35, 3) := by decide +kernel
theorem dX4_longest_32 : decode cX4_longest 32 = .ok (.istore_n 1, 1) := by decide +kernel
theorem dX4_longest_33 : decode cX4_longest 33 = .ok (.aload_n 0, 1) := by decide +kernel
theorem dX4_longest_34 : decode cX4_longest 34 = .ok (.aload_n 0, 1) := by decide +kernel
theorem dX4_longest_35 : decode cX4_longest 35 = .ok (.iload_n 2, 1) := by decide +kernel
theorem dX4_longest_36 : decode cX4_longest 36 = .ok (.iconst 0, 1) := by decide +kernel
theorem dX4_longest_37 : decode cX4_longest 37 = .ok (.invokestatic 27, 3) := by decide +kernel
theorem dX4_longest_40 : decode cX4_longest 40 = .ok (.iconst 1, 1) := by decide +kernel
theorem dX4_longest_41 : decode cX4_longest 41 = .ok (.invokestatic 27, 3) := by decide +kernel
theorem dX4_longest_44 : decode cX4_longest 44 = .ok (.istore_n 2, 1) := by decide +kernel
theorem dX4_longest_45 : decode cX4_longest 45 = .ok (.goto (-36), 3) := by decide +kernel
theorem dX4_longest_48 : decode cX4_longest 48 = .ok (.iload_n 1, 1) := by decide +kernel
theorem dX4_longest_49 : decode cX4_longest 49 = .ok (.ireturn, 1) := by decide +kernel
set_option maxRecDepth 20000 in
theorem ggX4_alone_X4_isAlone : GoodIn wsX4_alone wsX4_isAlone := goodIn_r _ [4, 5, 6, 3, 7] (by decide +kernel) (by decide +kernel)
set_option maxRecDepth 20000 in
theorem gX4_alone_X4_isAlone : GoodIn wsX4_alone (va_wsS RX4 40 yX4_isAlone wsX4_isAlone) := goodIn_app (goodIn_of _ (by decide +kernel)) ggX4_alone_X4_isAlone
theorem dX4_alone_0 : decode cX4_alone 0 = .ok (.iconst 0, 1) := by decide +kernel
theorem dX4_alone_1 : decode cX4_alone 1 = .ok (.istore_n 1, 1) := by decide +kernel
theorem dX4_alone_2 : decode cX4_alone 2 = .ok (.iconst 0, 1) := by decide +kernel
theorem dX4_alone_3 : decode cX4_alone 3 = .ok (.istore_n 2, 1) := by decide +kernel
theorem dX4_alone_4 : decode cX4_alone 4 = .ok (.iload_n 2, 1) := by decide +kernel
theorem dX4_alone_5 : decode cX4_alone 5 = .ok (.sipush 201, 3) := by decide +kernel
theorem dX4_alone_8 : decode cX4_alone 8 = .ok (.if_icmp .ge 25, 3) := by decide +kernel
theorem dX4_alone_11 : decode cX4_alone 11 = .ok (.iload_n 1, 1) := by decide +kernel
theorem dX4_alone_12 : decode cX4_alone 12 = .ok (.aload_n 0, 1) := by decide +kernel
theorem dX4_alone_13 : decode cX4_alone 13 = .ok (.iload_n 2, 1) := by decide +kernel
theorem dX4_alone_14 : decode cX4_alone 14 = .ok (.invokestatic 40, 3) := by decide +kernel
theorem dX4_alone_17 : decode cX4_alone 17 = .ok (.ifCond .eq 7, 3) := by decide +kernel
theorem dX4_alone_20 : decode cX4_alone 20 = .ok (.iconst 1, 1) := by decide +kernel
theorem dX4_alone_21 : decode cX4_alone 21 = .ok (.goto 4, 3) := by decide +kernel
theorem dX4_alone_24 : decode cX4_alone 24 = .ok (.iconst 0, 1) := by decide +kernel
theorem dX4_alone_25 : decode cX4_alone 25 = .ok (.iadd, 1) := by decide +kernel
theorem dX4_alone_26 : decode cX4_alone 26 = .ok (.istore_n 1, 1) := by decide +kernel
theorem dX4_alone_27 : decode cX4_alone 27 = .ok (.iinc 2 2, 3) := by decide +kernel
theorem dX4_alone_30 : decode cX4_alone 30 = .ok (.goto (-26), 3) := by decide +kernel
theorem dX4_alone_33 : decode cX4_alone 33 = .ok (.iload_n 1, 1) := by decide +kernel
theorem dX4_alone_34 : decode cX4_alone 34 = .ok (.ireturn, 1) := by decide +kernel
theorem dX4_isAt_0 : decode cX4_isAt 0 = .ok (.iload_n 1, 1) := by decide +kernel
theorem dX4_isAt_1 : decode cX4_isAt 1 = .ok (.ifCond .lt 20, 3) := by decide +kernel
theorem dX4_isAt_4 : decode cX4_isAt 4 = .ok (.iload_n 1, 1) := by decide +kernel
theorem dX4_isAt_5 : decode cX4_isAt 5 = .ok (.sipush 201, 3) := by decide +kernel
theorem dX4_isAt_8 : decode cX4_isAt 8 = .ok (.if_icmp .ge 13, 3) := by decide +kernel
theorem dX4_isAt_11 : decode cX4_isAt 11 = .ok (.aload_n 0, 1) := by decide +kernel
theorem dX4_isAt_12 : decode cX4_isAt 12 = .ok (.iload_n 1, 1) := by decide +kernel
theorem dX4_isAt_13 : decode cX4_isAt 13 = .ok (.baload, 1) := by decide +kernel
theorem dX4_isAt_14 : decode cX4_isAt 14 = .ok (.ifCond .eq 7, 3) := by decide +kernel
theorem dX4_isAt_17 : decode cX4_isAt 17 = .ok (.iconst 1, 1) := by decide +kernel
theorem dX4_isAt_18 : decode cX4_isAt 18 = .ok (.goto 4, 3) := by decide +kernel
theorem dX4_isAt_21 : decode cX4_isAt 21 = .ok (.iconst 0, 1) := by decide +kernel
theorem dX4_isAt_22 : decode cX4_isAt 22 = .ok (.ireturn, 1) := by decide +kernel
set_option maxRecDepth 20000 in
theorem ggX4_isAlone_X4_isAt : GoodIn wsX4_isAlone wsX4_isAt := goodIn_r _ [4] (by decide +kernel) (by decide +kernel)
set_option maxRecDepth 20000 in
theorem gX4_isAlone_X4_isAt : GoodIn wsX4_isAlone (va_wsS RX4 44 yX4_isAt wsX4_isAt) := goodIn_app (goodIn_of _ (by decide +kernel)) ggX4_isAlone_X4_isAt
theorem dX4_isAlone_0 : decode cX4_isAlone 0 = .ok (.iload_n 1, 1) := by decide +kernel
theorem dX4_isAlone_1 : decode cX4_isAlone 1 = .ok (.iconst 2, 1) := by decide +kernel
theorem dX4_isAlone_2 : decode cX4_isAlone 2 = .ok (.irem, 1) := by decide +kernel
theorem dX4_isAlone_3 : decode cX4_isAlone 3 = .ok (.ifCond .ne 33, 3) := by decide +kernel
theorem dX4_isAlone_6 : decode cX4_isAlone 6 = .ok (.aload_n 0, 1) := by decide +kernel
theorem dX4_isAlone_7 : decode cX4_isAlone 7 = .ok (.iload_n 1, 1) := by decide +kernel
theorem dX4_isAlone_8 : decode cX4_isAlone 8 = .ok (.baload, 1) := by decide +kernel
theorem dX4_isAlone_9 : decode cX4_isAlone 9 = .ok (.ifCond .eq 27, 3) := by decide +kernel
theorem dX4_isAlone_12 : decode cX4_isAlone 12 = .ok (.aload_n 0, 1) := by decide +kernel
theorem dX4_isAlone_13 : decode cX4_isAlone 13 = .ok (.iload_n 1, 1) := by decide +kernel
theorem dX4_isAlone_14 : decode cX4_isAlone 14 = .ok (.iconst 1, 1) := by decide +kernel
theorem dX4_isAlone_15 : decode cX4_isAlone 15 = .ok (.isub, 1) := by decide +kernel
theorem dX4_isAlone_16 : decode cX4_isAlone 16 = .ok (.invokestatic 44, 3) := by decide +kernel
theorem dX4_isAlone_19 : decode cX4_isAlone 19 = .ok (.ifCond .ne 17, 3) := by decide +kernel
theorem dX4_isAlone_22 : decode cX4_isAlone 22 = .ok (.aload_n 0, 1) := by decide +kernel
theorem dX4_isAlone_23 : decode cX4_isAlone 23 = .ok (.iload_n 1, 1) := by decide +kernel
theorem dX4_isAlone_24 : decode cX4_isAlone 24 = .ok (.iconst 1, 1) := by decide +kernel
theorem dX4_isAlone_25 : decode cX4_isAlone 25 = .ok (.iadd, 1) := by decide +kernel
theorem dX4_isAlone_26 : decode cX4_isAlone 26 = .ok (.invokestatic 44, 3) := by decide +kernel
theorem dX4_isAlone_29 : decode cX4_isAlone 29 = .ok (.ifCond .ne 7, 3) := by decide +kernel
theorem dX4_isAlone_32 : decode cX4_isAlone 32 = .ok (.iconst 1, 1) := by decide +kernel
theorem dX4_isAlone_33 : decode cX4_isAlone 33 = .ok (.goto 4, 3) := by decide +kernel
theorem dX4_isAlone_36 : decode cX4_isAlone 36 = .ok (.iconst 0, 1) := by decide +kernel
theorem dX4_isAlone_37 : decode cX4_isAlone 37 = .ok (.ireturn, 1) := by decide +kernel
set_option maxRecDepth 20000 in
theorem ggX4_span_X4_isSet : GoodIn wsX4_span wsX4_isSet := goodIn_r _ [6, 7, 8, 5, 9] (by decide +kernel) (by decide +kernel)
set_option maxRecDepth 20000 in
theorem gX4_span_X4_isSet : GoodIn wsX4_span (va_wsS RX4 47 yX4_isSet wsX4_isSet) := goodIn_app (goodIn_of _ (by decide +kernel)) ggX4_span_X4_isSet
set_option maxRecDepth 20000 in
theorem ggX4_span_X4_no : GoodIn wsX4_span wsX4_no := goodIn_r _ [13, 1, 20, 21, 22] (by decide +kernel) (by decide +kernel)
set_option maxRecDepth 20000 in
theorem gX4_span_X4_no : GoodIn wsX4_span (wsV RX4 51 RX4 yX4_no wsX4_no) := goodIn_app (goodIn_of _ (by decide +kernel)) ggX4_span_X4_no
set_option maxRecDepth 20000 in
theorem ggX4_span_X4_isSpan : GoodIn wsX4_span wsX4_isSpan := goodIn_r _ [16, 7, 8, 5, 9] (by decide +kernel) (by decide +kernel)
set_option maxRecDepth 20000 in
theorem gX4_span_X4_isSpan : GoodIn wsX4_span (va_wsS RX4 55 yX4_isSpan wsX4_isSpan) := goodIn_app (goodIn_of _ (by decide +kernel)) ggX4_span_X4_isSpan
set_option maxRecDepth 20000 in
theorem ggX4_span_X4_isWithin : GoodIn wsX4_span wsX4_isWithin := goodIn_r _ [19, 7, 8, 5, 9] (by decide +kernel) (by decide +kernel)
set_option maxRecDepth 20000 in
theorem gX4_span_X4_isWithin : GoodIn wsX4_span (va_wsS RX4 58 yX4_isWithin wsX4_isWithin) := goodIn_app (goodIn_of _ (by decide +kernel)) ggX4_span_X4_isWithin
theorem dX4_span_0 : decode cX4_span 0 = .ok (.aload_n 0, 1) := by decide +kernel
theorem dX4_span_1 : decode cX4_span 1 = .ok (.iconst 0, 1) := by decide +kernel
theorem dX4_span_2 : decode cX4_span 2 = .ok (.putfield 19, 3) := by decide +kernel
theorem dX4_span_5 : decode cX4_span 5 = .ok (.iload_n 1, 1) := by decide +kernel
theorem dX4_span_6 : decode cX4_span 6 = .ok (.invokestatic 47, 3) := by decide +kernel
theorem dX4_span_9 : decode cX4_span 9 = .ok (.ifCond .ne 9, 3) := by decide +kernel
theorem dX4_span_12 : decode cX4_span 12 = .ok (.aload_n 0, 1) := by decide +kernel
theorem dX4_span_13 : decode cX4_span 13 = .ok (.iconst 1, 1) := by decide +kernel
theorem dX4_span_14 : decode cX4_span 14 = .ok (.invokevirtual 51, 3) := by decide +kernel
theorem dX4_span_17 : decode cX4_span 17 = .ok (.ireturn, 1) := by decide +kernel
theorem dX4_span_18 : decode cX4_span 18 = .ok (.iload_n 2, 1) := by decide +kernel
theorem dX4_span_19 : decode cX4_span 19 = .ok (.iload_n 3, 1) := by decide +kernel
theorem dX4_span_20 : decode cX4_span 20 = .ok (.iload 4, 2) := by decide +kernel
theorem dX4_span_22 : decode cX4_span 22 = .ok (.invokestatic 55, 3) := by decide +kernel
theorem dX4_span_25 : decode cX4_span 25 = .ok (.ifCond .ne 9, 3) := by decide +kernel
theorem dX4_span_28 : decode cX4_span 28 = .ok (.aload_n 0, 1) := by decide +kernel
theorem dX4_span_29 : decode cX4_span 29 = .ok (.iconst 2, 1) := by decide +kernel
theorem dX4_span_30 : decode cX4_span 30 = .ok (.invokevirtual 51, 3) := by decide +kernel
theorem dX4_span_33 : decode cX4_span 33 = .ok (.ireturn, 1) := by decide +kernel
theorem dX4_span_34 : decode cX4_span 34 = .ok (.iconst 0, 1) := by decide +kernel
theorem dX4_span_35 : decode cX4_span 35 = .ok (.istore 6, 2) := by decide +kernel
theorem dX4_span_37 : decode cX4_span 37 = .ok (.iconst 0, 1) := by decide +kernel
theorem dX4_span_38 : decode cX4_span 38 = .ok (.istore 7, 2) := by decide +kernel
theorem dX4_span_40 : decode cX4_span 40 = .ok (.iload 7, 2) := by decide +kernel
theorem dX4_span_42 : decode cX4_span 42 = .ok (.sipush 201, 3) := by decide +kernel
theorem dX4_span_45 : decode cX4_span 45 = .ok (.if_icmp .ge 52, 3) := by decide +kernel
theorem dX4_span_48 : decode cX4_span 48 = .ok (.iload 7, 2) := by decide +kernel
theorem dX4_span_50 : decode cX4_span 50 = .ok (.iload_n 2, 1) := by decide +kernel
theorem dX4_span_51 : decode cX4_span 51 = .ok (.iload_n 3, 1) := by decide +kernel
theorem dX4_span_52 : decode cX4_span 52 = .ok (.iload 4, 2) := by decide +kernel
theorem dX4_span_54 : decode cX4_span 54 = .ok (.invokestatic 58, 3) := by decide +kernel
theorem dX4_span_57 : decode cX4_span 57 = .ok (.ifCond .eq 34, 3) := by decide +kernel
theorem dX4_span_60 : decode cX4_span 60 = .ok (.aload_n 0, 1) := by decide +kernel
theorem dX4_span_61 : decode cX4_span 61 = .ok (.getfield 11, 3) := by decide +kernel
theorem dX4_span_64 : decode cX4_span 64 = .ok (.iload_n 1, 1) := by decide +kernel
theorem dX4_span_65 : decode cX4_span 65 = .ok (.aaload, 1) := by decide +kernel
theorem dX4_span_66 : decode cX4_span 66 = .ok (.iload 7, 2) := by decide +kernel
theorem dX4_span_68 : decode cX4_span 68 = .ok (.baload, 1) := by decide +kernel
theorem dX4_span_69 : decode cX4_span 69 = .ok (.iload 5, 2) := by decide +kernel
theorem dX4_span_71 : decode cX4_span 71 = .ok (.if_icmp .ne 6, 3) := by decide +kernel
theorem dX4_span_74 : decode cX4_span 74 = .ok (.goto 17, 3) := by decide +kernel
theorem dX4_span_77 : decode cX4_span 77 = .ok (.aload_n 0, 1) := by decide +kernel
theorem dX4_span_78 : decode cX4_span 78 = .ok (.getfield 11, 3) := by decide +kernel
theorem dX4_span_81 : decode cX4_span 81 = .ok (.iload_n 1, 1) := by decide +kernel
theorem dX4_span_82 : decode cX4_span 82 = .ok (.aaload, 1) := by decide +kernel
theorem dX4_span_83 : decode cX4_span 83 = .ok (.iload 7, 2) := by decide +kernel
theorem dX4_span_85 : decode cX4_span 85 = .ok (.iload 5, 2) := by decide +kernel
theorem dX4_span_87 : decode cX4_span 87 = .ok (.bastore, 1) := by decide +kernel
theorem dX4_span_88 : decode cX4_span 88 = .ok (.iinc 6 1, 3) := by decide +kernel
theorem dX4_span_91 : decode cX4_span 91 = .ok (.iinc 7 1, 3) := by decide +kernel
theorem dX4_span_94 : decode cX4_span 94 = .ok (.goto (-54), 3) := by decide +kernel
theorem dX4_span_97 : decode cX4_span 97 = .ok (.iload 6, 2) := by decide +kernel
theorem dX4_span_99 : decode cX4_span 99 = .ok (.ireturn, 1) := by decide +kernel
set_option maxRecDepth 20000 in
theorem ggX4_join_X4_isSet : GoodIn wsX4_join wsX4_isSet := goodIn_r _ [7, 8, 9, 6, 10] (by decide +kernel) (by decide +kernel)
set_option maxRecDepth 20000 in
theorem gX4_join_X4_isSet : GoodIn wsX4_join (va_wsS RX4 47 yX4_isSet wsX4_isSet) := goodIn_app (goodIn_of _ (by decide +kernel)) ggX4_join_X4_isSet
set_option maxRecDepth 20000 in
theorem ggX4_join_X4_no : GoodIn wsX4_join wsX4_no := goodIn_r _ [14, 1, 18, 19, 20] (by decide +kernel) (by decide +kernel)
set_option maxRecDepth 20000 in
theorem gX4_join_X4_no : GoodIn wsX4_join (wsV RX4 51 RX4 yX4_no wsX4_no) := goodIn_app (goodIn_of _ (by decide +kernel)) ggX4_join_X4_no
set_option maxRecDepth 20000 in
theorem ggX4_join_X4_isIn : GoodIn wsX4_join wsX4_isIn := goodIn_r _ [10] (by decide +kernel) (by decide +kernel)
set_option maxRecDepth 20000 in
theorem gX4_join_X4_isIn : GoodIn wsX4_join (va_wsS RX4 23 yX4_isIn wsX4_isIn) := goodIn_app (goodIn_of _ (by decide +kernel)) ggX4_join_X4_isIn
set_option maxRecDepth 20000 in
theorem ggX4_join_X4_count : GoodIn wsX4_join wsX4_count := goodIn_r _ [17] (by decide +kernel) (by decide +kernel)
set_option maxRecDepth 20000 in
theorem gX4_join_X4_count : GoodIn wsX4_join (va_wsS RX4 62 yX4_count wsX4_count) := goodIn_app (goodIn_of _ (by decide +kernel)) ggX4_join_X4_count
theorem dX4_join_0 : decode cX4_join 0 = .ok (.aload_n 0, 1) := by decide +kernel
theorem dX4_join_1 : decode cX4_join 1 = .ok (.iconst 0, 1) := by decide +kernel
theorem dX4_join_2 : decode cX4_join 2 = .ok (.putfield 19, 3) := by decide +kernel
theorem dX4_join_5 : decode cX4_join 5 = .ok (.iload_n 1, 1) := by decide +kernel
theorem dX4_join_6 : decode cX4_join 6 = .ok (.invokestatic 47, 3) := by decide +kernel
theorem dX4_join_9 : decode cX4_join 9 = .ok (.ifCond .eq 17, 3) := by decide +kernel
theorem dX4_join_12 : decode cX4_join 12 = .ok (.iload_n 2, 1) := by decide +kernel
theorem dX4_join_13 : decode cX4_join 13 = .ok (.invokestatic 47, 3) := by decide +kernel
theorem dX4_join_16 : decode cX4_join 16 = .ok (.ifCond .eq 10, 3) := by decide +kernel
theorem dX4_join_19 : decode cX4_join 19 = .ok (.iload_n 3, 1) := by decide +kernel
theorem dX4_join_20 : decode cX4_join 20 = .ok (.invokestatic 47, 3) := by decide +kernel
theorem dX4_join_23 : decode cX4_join 23 = .ok (.ifCond .ne 9, 3) := by decide +kernel
theorem dX4_join_26 : decode cX4_join 26 = .ok (.aload_n 0, 1) := by decide +kernel
theorem dX4_join_27 : decode cX4_join 27 = .ok (.iconst 1, 1) := by decide +kernel
theorem dX4_join_28 : decode cX4_join 28 = .ok (.invokevirtual 51, 3) := by decide +kernel
theorem dX4_join_31 : decode cX4_join 31 = .ok (.ireturn, 1) := by decide +kernel
theorem dX4_join_32 : decode cX4_join 32 = .ok (.iload 4, 2) := by decide +kernel
theorem dX4_join_34 : decode cX4_join 34 = .ok (.iconst 0, 1) := by decide +kernel
theorem dX4_join_35 : decode cX4_join 35 = .ok (.iconst 3, 1) := by decide +kernel
theorem dX4_join_36 : decode cX4_join 36 = .ok (.invokestatic 23, 3) := by decide +kernel
theorem dX4_join_39 : decode cX4_join 39 = .ok (.ifCond .ne 9, 3) := by decide +kernel
theorem dX4_join_42 : decode cX4_join 42 = .ok (.aload_n 0, 1) := by decide +kernel
theorem dX4_join_43 : decode cX4_join 43 = .ok (.iconst 2, 1) := by decide +kernel
theorem dX4_join_44 : decode cX4_join 44 = .ok (.invokevirtual 51, 3) := by decide +kernel
theorem dX4_join_47 : decode cX4_join 47 = .ok (.ireturn, 1) := by decide +kernel
theorem dX4_join_48 : decode cX4_join 48 = .ok (.sipush 201, 3) := by decide +kernel
theorem dX4_join_51 : decode cX4_join 51 = .ok (.newarray .boolean, 2) := by decide +kernel
theorem dX4_join_53 : decode cX4_join 53 = .ok (.astore 5, 2) := by decide +kernel
theorem dX4_join_55 : decode cX4_join 55 = .ok (.iconst 0, 1) := by decide +kernel
theorem dX4_join_56 : decode cX4_join 56 = .ok (.istore 6, 2) := by decide +kernel
theorem dX4_join_58 : decode cX4_join 58 = .ok (.iload 6, 2) := by decide +kernel
theorem dX4_join_60 : decode cX4_join 60 = .ok (.sipush 201, 3) := by decide +kernel
theorem dX4_join_63 : decode cX4_join 63 = .ok (.if_icmp .ge 119, 3) := by decide +kernel
theorem dX4_join_66 : decode cX4_join 66 = .ok (.aload_n 0, 1) := by decide +kernel
theorem dX4_join_67 : decode cX4_join 67 = .ok (.getfield 11, 3) := by decide +kernel
theorem dX4_join_70 : decode cX4_join 70 = .ok (.iload_n 2, 1) := by decide +kernel
theorem dX4_join_71 : decode cX4_join 71 = .ok (.aaload, 1) := by decide +kernel
theorem dX4_join_72 : decode cX4_join 72 = .ok (.iload 6, 2) := by decide +kernel
theorem dX4_join_74 : decode cX4_join 74 = .ok (.baload, 1) := by decide +kernel
theorem dX4_join_75 : decode cX4_join 75 = .ok (.istore 7, 2) := by decide +kernel
theorem dX4_join_77 : decode cX4_join 77 = .ok (.aload_n 0, 1) := by decide +kernel
theorem dX4_join_78 : decode cX4_join 78 = .ok (.getfield 11, 3) := by decide +kernel
theorem dX4_join_81 : decode cX4_join 81 = .ok (.iload_n 3, 1) := by decide +kernel
theorem dX4_join_82 : decode cX4_join 82 = .ok (.aaload, 1) := by decide +kernel
theorem dX4_join_83 : decode cX4_join 83 = .ok (.iload 6, 2) := by decide +kernel
theorem dX4_join_85 : decode cX4_join 85 = .ok (.baload, 1) := by decide +kernel
theorem dX4_join_86 : decode cX4_join 86 = .ok (.istore 8, 2) := by decide +kernel
theorem dX4_join_88 : decode cX4_join 88 = .ok (.aload 5, 2) := by decide +kernel
theorem dX4_join_90 : decode cX4_join 90 = .ok (.iload 6, 2) := by decide +kernel
theorem dX4_join_92 : decode cX4_join 92 = .ok (.iload 4, 2) := by decide +kernel
theorem dX4_join_94 : decode cX4_join 94 = .ok (.ifCond .ne 21, 3) := by decide +kernel
theorem dX4_join_97 : decode cX4_join 97 = .ok (.iload 7, 2) := by decide +kernel
theorem dX4_join_99 : decode cX4_join 99 = .ok (.ifCond .ne 8, 3) := by decide +kernel
theorem dX4_join_102 : decode cX4_join 102 = .ok (.iload 8, 2) := by decide +kernel
theorem dX4_join_104 : decode cX4_join 104 = .ok (.ifCond .eq 7, 3) := by decide +kernel
theorem dX4_join_107 : decode cX4_join 107 = .ok (.iconst 1, 1) := by decide +kernel
theorem dX4_join_108 : decode cX4_join 108 = .ok (.goto 67, 3) := by decide +kernel
theorem dX4_join_111 : decode cX4_join 111 = .ok (.iconst 0, 1) := by decide +kernel
theorem dX4_join_112 : decode cX4_join 112 = .ok (.goto 63, 3) := by decide +kernel
theorem dX4_join_115 : decode cX4_join 115 = .ok (.iload 4, 2) := by decide +kernel
theorem dX4_join_117 : decode cX4_join 117 = .ok (.iconst 1, 1) := by decide +kernel
theorem dX4_join_118 : decode cX4_join 118 = .ok (.if_icmp .ne 21, 3) := by decide +kernel
theorem dX4_join_121 : decode cX4_join 121 = .ok (.iload 7, 2) := by decide +kernel
theorem dX4_join_123 : decode cX4_join 123 = .ok (.ifCond .eq 12, 3) := by decide +kernel
theorem dX4_join_126 : decode cX4_join 126 = .ok (.iload 8, 2) := by decide +kernel
theorem dX4_join_128 : decode cX4_join 128 = .ok (.ifCond .eq 7, 3) := by decide +kernel
theorem dX4_join_131 : decode cX4_join 131 = .ok (.iconst 1, 1) := by decide +kernel
theorem dX4_join_132 : decode cX4_join 132 = .ok (.goto 43, 3) := by decide +kernel
theorem dX4_join_135 : decode cX4_join 135 = .ok (.iconst 0, 1) := by decide +kernel
theorem dX4_join_136 : decode cX4_join 136 = .ok (.goto 39, 3) := by decide +kernel
theorem dX4_join_139 : decode cX4_join 139 = .ok (.iload 4, 2) := by decide +kernel
theorem dX4_join_141 : decode cX4_join 141 = .ok (.iconst 2, 1) := by decide +kernel
theorem dX4_join_142 : decode cX4_join 142 = .ok (.if_icmp .ne 21, 3) := by decide +kernel
theorem dX4_join_145 : decode cX4_join 145 = .ok (.iload 7, 2) := by decide +kernel
theorem dX4_join_147 : decode cX4_join 147 = .ok (.ifCond .eq 12, 3) := by decide +kernel
theorem dX4_join_150 : decode cX4_join 150 = .ok (.iload 8, 2) := by decide +kernel
theorem dX4_join_152 : decode cX4_join 152 = .ok (.ifCond .ne 7, 3) := by decide +kernel
theorem dX4_join_155 : decode cX4_join 155 = .ok (.iconst 1, 1) := by decide +kernel
theorem dX4_join_156 : decode cX4_join 156 = .ok (.goto 19, 3) := by decide +kernel
theorem dX4_join_159 : decode cX4_join 159 = .ok (.iconst 0, 1) := by decide +kernel
theorem dX4_join_160 : decode cX4_join 160 = .ok (.goto 15, 3) := by decide +kernel
theorem dX4_join_163 : decode cX4_join 163 = .ok (.iload 7, 2) := by decide +kernel
theorem dX4_join_165 : decode cX4_join 165 = .ok (.iload 8, 2) := by decide +kernel
theorem dX4_join_167 : decode cX4_join 167 = .ok (.if_icmp .eq 7, 3) := by decide +kernel
theorem dX4_join_170 : decode cX4_join 170 = .ok (.iconst 1, 1) := by decide +kernel
theorem dX4_join_171 : decode cX4_join 171 = .ok (.goto 4, 3) := by decide +kernel
theorem dX4_join_174 : decode cX4_join 174 = .ok (.iconst 0, 1) := by decide +kernel
theorem dX4_join_175 : decode cX4_join 175 = .ok (.bastore, 1) := by decide +kernel
theorem dX4_join_176 : decode cX4_join 176 = .ok (.iinc 6 1, 3) := by decide +kernel
theorem dX4_join_179 : decode cX4_join 179 = .ok (.goto (-121), 3) := by decide +kernel
theorem dX4_join_182 : decode cX4_join 182 = .ok (.aload_n 0, 1) := by decide +kernel
theorem dX4_join_183 : decode cX4_join 183 = .ok (.getfield 11, 3) := by decide +kernel
theorem dX4_join_186 : decode cX4_join 186 = .ok (.iload_n 1, 1) := by decide +kernel
theorem dX4_join_187 : decode cX4_join 187 = .ok (.aload 5, 2) := by decide +kernel
theorem dX4_join_189 : decode cX4_join 189 = .ok (.aastore, 1) := by decide +kernel
theorem dX4_join_190 : decode cX4_join 190 = .ok (.aload 5, 2) := by decide +kernel
theorem dX4_join_192 : decode cX4_join 192 = .ok (.invokestatic 62, 3) := by decide +kernel
theorem dX4_join_195 : decode cX4_join 195 = .ok (.ireturn, 1) := by decide +kernel
set_option maxRecDepth 20000 in
theorem ggX4_changed_X4_longest : GoodIn wsX4_changed wsX4_longest := goodIn_r _ [5, 6, 7, 8, 9, 10, 11, 4, 12, 13, 14, 15] (by decide +kernel) (by decide +kernel)
set_option maxRecDepth 20000 in
theorem gX4_changed_X4_longest : GoodIn wsX4_changed (va_wsS RX4 66 yX4_longest wsX4_longest) := goodIn_app (goodIn_of _ (by decide +kernel)) ggX4_changed_X4_longest
set_option maxRecDepth 20000 in
theorem ggX4_changed_X4_first : GoodIn wsX4_changed wsX4_first := goodIn_r _ [12] (by decide +kernel) (by decide +kernel)
set_option maxRecDepth 20000 in
theorem gX4_changed_X4_first : GoodIn wsX4_changed (va_wsS RX4 27 yX4_first wsX4_first) := goodIn_app (goodIn_of _ (by decide +kernel)) ggX4_changed_X4_first
set_option maxRecDepth 20000 in
theorem ggX4_changed_X4_longOf : GoodIn wsX4_changed wsX4_longOf := goodIn_r _ [15] (by decide +kernel) (by decide +kernel)
set_option maxRecDepth 20000 in
theorem gX4_changed_X4_longOf : GoodIn wsX4_changed (va_wsS RX4 31 yX4_longOf wsX4_longOf) := goodIn_app (goodIn_of _ (by decide +kernel)) ggX4_changed_X4_longOf
set_option maxRecDepth 20000 in
theorem ggX4_changed_X4_isAt : GoodIn wsX4_changed wsX4_isAt := goodIn_r _ [18] (by decide +kernel) (by decide +kernel)
set_option maxRecDepth 20000 in
theorem gX4_changed_X4_isAt : GoodIn wsX4_changed (va_wsS RX4 44 yX4_isAt wsX4_isAt) := goodIn_app (goodIn_of _ (by decide +kernel)) ggX4_changed_X4_isAt
set_option maxRecDepth 20000 in
theorem ggX4_changed_X4_isAlone : GoodIn wsX4_changed wsX4_isAlone := goodIn_r _ [21, 16, 17, 4, 18] (by decide +kernel) (by decide +kernel)
set_option maxRecDepth 20000 in
theorem gX4_changed_X4_isAlone : GoodIn wsX4_changed (va_wsS RX4 40 yX4_isAlone wsX4_isAlone) := goodIn_app (goodIn_of _ (by decide +kernel)) ggX4_changed_X4_isAlone
theorem dX4_changed_0 : decode cX4_changed 0 = .ok (.sipush 201, 3) := by decide +kernel
theorem dX4_changed_3 : decode cX4_changed 3 = .ok (.newarray .boolean, 2) := by decide +kernel
theorem dX4_changed_5 : decode cX4_changed 5 = .ok (.astore_n 2, 1) := by decide +kernel
theorem dX4_changed_6 : decode cX4_changed 6 = .ok (.aload_n 0, 1) := by decide +kernel
theorem dX4_changed_7 : decode cX4_changed 7 = .ok (.invokestatic 66, 3) := by decide +kernel
theorem dX4_changed_10 : decode cX4_changed 10 = .ok (.istore_n 3, 1) := by decide +kernel
theorem dX4_changed_11 : decode cX4_changed 11 = .ok (.aload_n 0, 1) := by decide +kernel
theorem dX4_changed_12 : decode cX4_changed 12 = .ok (.iconst 0, 1) := by decide +kernel
theorem dX4_changed_13 : decode cX4_changed 13 = .ok (.iconst 1, 1) := by decide +kernel
theorem dX4_changed_14 : decode cX4_changed 14 = .ok (.invokestatic 27, 3) := by decide +kernel
theorem dX4_changed_17 : decode cX4_changed 17 = .ok (.istore 4, 2) := by decide +kernel
theorem dX4_changed_19 : decode cX4_changed 19 = .ok (.iload_n 1, 1) := by decide +kernel
theorem dX4_changed_20 : decode cX4_changed 20 = .ok (.iconst 5, 1) := by decide +kernel
theorem dX4_changed_21 : decode cX4_changed 21 = .ok (.if_icmp .ne 46, 3) := by decide +kernel
theorem dX4_changed_24 : decode cX4_changed 24 = .ok (.iload 4, 2) := by decide +kernel
theorem dX4_changed_26 : decode cX4_changed 26 = .ok (.sipush 201, 3) := by decide +kernel
theorem dX4_changed_29 : decode cX4_changed 29 = .ok (.if_icmp .ge 38, 3) := by decide +kernel
theorem dX4_changed_32 : decode cX4_changed 32 = .ok (.iload 4, 2) := by decide +kernel
theorem dX4_changed_34 : decode cX4_changed 34 = .ok (.aload_n 0, 1) := by decide +kernel
theorem dX4_changed_35 : decode cX4_changed 35 = .ok (.iload 4, 2) := by decide +kernel
theorem dX4_changed_37 : decode cX4_changed 37 = .ok (.iconst 0, 1) := by decide +kernel
theorem dX4_changed_38 : decode cX4_changed 38 = .ok (.invokestatic 27, 3) := by decide +kernel
theorem dX4_changed_41 : decode cX4_changed 41 = .ok (.iconst 1, 1) := by decide +kernel
theorem dX4_changed_42 : decode cX4_changed 42 = .ok (.isub, 1) := by decide +kernel
theorem dX4_changed_43 : decode cX4_changed 43 = .ok (.invokestatic 31, 3) := by decide +kernel
theorem dX4_changed_46 : decode cX4_changed 46 = .ok (.iload_n 3, 1) := by decide +kernel
theorem dX4_changed_47 : decode cX4_changed 47 = .ok (.if_icmp .ge 20, 3) := by decide +kernel
theorem dX4_changed_50 : decode cX4_changed 50 = .ok (.aload_n 0, 1) := by decide +kernel
theorem dX4_changed_51 : decode cX4_changed 51 = .ok (.aload_n 0, 1) := by decide +kernel
theorem dX4_changed_52 : decode cX4_changed 52 = .ok (.iload 4, 2) := by decide +kernel
theorem dX4_changed_54 : decode cX4_changed 54 = .ok (.iconst 0, 1) := by decide +kernel
theorem dX4_changed_55 : decode cX4_changed 55 = .ok (.invokestatic 27, 3) := by decide +kernel
theorem dX4_changed_58 : decode cX4_changed 58 = .ok (.iconst 1, 1) := by decide +kernel
theorem dX4_changed_59 : decode cX4_changed 59 = .ok (.invokestatic 27, 3) := by decide +kernel
theorem dX4_changed_62 : decode cX4_changed 62 = .ok (.istore 4, 2) := by decide +kernel
theorem dX4_changed_64 : decode cX4_changed 64 = .ok (.goto (-45), 3) := by decide +kernel
theorem dX4_changed_67 : decode cX4_changed 67 = .ok (.iload_n 1, 1) := by decide +kernel
theorem dX4_changed_68 : decode cX4_changed 68 = .ok (.iconst 5, 1) := by decide +kernel
theorem dX4_changed_69 : decode cX4_changed 69 = .ok (.if_icmp .ne 21, 3) := by decide +kernel
theorem dX4_changed_72 : decode cX4_changed 72 = .ok (.iload 4, 2) := by decide +kernel
theorem dX4_changed_74 : decode cX4_changed 74 = .ok (.sipush 201, 3) := by decide +kernel
theorem dX4_changed_77 : decode cX4_changed 77 = .ok (.if_icmp .ge 13, 3) := by decide +kernel
theorem dX4_changed_80 : decode cX4_changed 80 = .ok (.aload_n 0, 1) := by decide +kernel
theorem dX4_changed_81 : decode cX4_changed 81 = .ok (.iload 4, 2) := by decide +kernel
theorem dX4_changed_83 : decode cX4_changed 83 = .ok (.iconst 0, 1) := by decide +kernel
theorem dX4_changed_84 : decode cX4_changed 84 = .ok (.invokestatic 27, 3) := by decide +kernel
theorem dX4_changed_87 : decode cX4_changed 87 = .ok (.goto 6, 3) := by decide +kernel
theorem dX4_changed_90 : decode cX4_changed 90 = .ok (.sipush 201, 3) := by decide +kernel
theorem dX4_changed_93 : decode cX4_changed 93 = .ok (.istore 5, 2) := by decide +kernel
theorem dX4_changed_95 : decode cX4_changed 95 = .ok (.iload_n 1, 1) := by decide +kernel
theorem dX4_changed_96 : decode cX4_changed 96 = .ok (.bipush 6, 2) := by decide +kernel
theorem dX4_changed_98 : decode cX4_changed 98 = .ok (.if_icmp .ne 25, 3) := by decide +kernel
theorem dX4_changed_101 : decode cX4_changed 101 = .ok (.iload 5, 2) := by decide +kernel
theorem dX4_changed_103 : decode cX4_changed 103 = .ok (.iload 4, 2) := by decide +kernel
theorem dX4_changed_105 : decode cX4_changed 105 = .ok (.if_icmp .le 18, 3) := by decide +kernel
theorem dX4_changed_108 : decode cX4_changed 108 = .ok (.aload_n 0, 1) := by decide +kernel
theorem dX4_changed_109 : decode cX4_changed 109 = .ok (.iload 5, 2) := by decide +kernel
theorem dX4_changed_111 : decode cX4_changed 111 = .ok (.iconst 1, 1) := by decide +kernel
theorem dX4_changed_112 : decode cX4_changed 112 = .ok (.isub, 1) := by decide +kernel
theorem dX4_changed_113 : decode cX4_changed 113 = .ok (.baload, 1) := by decide +kernel
theorem dX4_changed_114 : decode cX4_changed 114 = .ok (.ifCond .ne 9, 3) := by decide +kernel
theorem dX4_changed_117 : decode cX4_changed 117 = .ok (.iinc 5 (-1), 3) := by decide +kernel
theorem dX4_changed_120 : decode cX4_changed 120 = .ok (.goto (-19), 3) := by decide +kernel
theorem dX4_changed_123 : decode cX4_changed 123 = .ok (.iconst 0, 1) := by decide +kernel
theorem dX4_changed_124 : decode cX4_changed 124 = .ok (.istore 6, 2) := by decide +kernel
theorem dX4_changed_126 : decode cX4_changed 126 = .ok (.iload 6, 2) := by decide +kernel
theorem dX4_changed_128 : decode cX4_changed 128 = .ok (.sipush 201, 3) := by decide +kernel
theorem dX4_changed_131 : decode cX4_changed 131 = .ok (.if_icmp .ge 260, 3) := by decide +kernel
theorem dX4_changed_134 : decode cX4_changed 134 = .ok (.aload_n 0, 1) := by decide +kernel
theorem dX4_changed_135 : decode cX4_changed 135 = .ok (.iload 6, 2) := by decide +kernel
theorem dX4_changed_137 : decode cX4_changed 137 = .ok (.iconst 1, 1) := by decide +kernel
theorem dX4_changed_138 : decode cX4_changed 138 = .ok (.isub, 1) := by decide +kernel
theorem dX4_changed_139 : decode cX4_changed 139 = .ok (.invokestatic 44, 3) := by decide +kernel
theorem dX4_changed_142 : decode cX4_changed 142 = .ok (.ifCond .ne 14, 3) := by decide +kernel
theorem dX4_changed_145 : decode cX4_changed 145 = .ok (.aload_n 0, 1) := by decide +kernel
theorem dX4_changed_146 : decode cX4_changed 146 = .ok (.iload 6, 2) := by decide +kernel
theorem dX4_changed_148 : decode cX4_changed 148 = .ok (.iconst 1, 1) := by decide +kernel
theorem dX4_changed_149 : decode cX4_changed 149 = .ok (.iadd, 1) := by decide +kernel
theorem dX4_changed_150 : decode cX4_changed 150 = .ok (.invokestatic 44, 3) := by decide +kernel
theorem dX4_changed_153 : decode cX4_changed 153 = .ok (.ifCond .eq 7, 3) := by decide +kernel
theorem dX4_changed_156 : decode cX4_changed 156 = .ok (.iconst 1, 1) := by decide +kernel
theorem dX4_changed_157 : decode cX4_changed 157 = .ok (.goto 4, 3) := by decide +kernel
theorem dX4_changed_160 : decode cX4_changed 160 = .ok (.iconst 0, 1) := by decide +kernel
theorem dX4_changed_161 : decode cX4_changed 161 = .ok (.istore 7, 2) := by decide +kernel
theorem dX4_changed_163 : decode cX4_changed 163 = .ok (.iload 6, 2) := by decide +kernel
theorem dX4_changed_165 : decode cX4_changed 165 = .ok (.ifCond .eq 12, 3) := by decide +kernel
theorem dX4_changed_168 : decode cX4_changed 168 = .ok (.aload_n 0, 1) := by decide +kernel
theorem dX4_changed_169 : decode cX4_changed 169 = .ok (.iload 6, 2) := by decide +kernel
theorem dX4_changed_171 : decode cX4_changed 171 = .ok (.iconst 1, 1) := by decide +kernel
theorem dX4_changed_172 : decode cX4_changed 172 = .ok (.isub, 1) := by decide +kernel
theorem dX4_changed_173 : decode cX4_changed 173 = .ok (.baload, 1) := by decide +kernel
theorem dX4_changed_174 : decode cX4_changed 174 = .ok (.ifCond .eq 24, 3) := by decide +kernel
theorem dX4_changed_177 : decode cX4_changed 177 = .ok (.iload 6, 2) := by decide +kernel
theorem dX4_changed_179 : decode cX4_changed 179 = .ok (.sipush 200, 3) := by decide +kernel
theorem dX4_changed_182 : decode cX4_changed 182 = .ok (.if_icmp .eq 12, 3) := by decide +kernel
theorem dX4_changed_185 : decode cX4_changed 185 = .ok (.aload_n 0, 1) := by decide +kernel
theorem dX4_changed_186 : decode cX4_changed 186 = .ok (.iload 6, 2) := by decide +kernel
theorem dX4_changed_188 : decode cX4_changed 188 = .ok (.iconst 1, 1) := by decide +kernel
theorem dX4_changed_189 : decode cX4_changed 189 = .ok (.iadd, 1) := by decide +kernel
theorem dX4_changed_190 : decode cX4_changed 190 = .ok (.baload, 1) := by decide +kernel
theorem dX4_changed_191 : decode cX4_changed 191 = .ok (.ifCond .eq 7, 3) := by decide +kernel
theorem dX4_changed_194 : decode cX4_changed 194 = .ok (.iconst 1, 1) := by decide +kernel
theorem dX4_changed_195 : decode cX4_changed 195 = .ok (.goto 4, 3) := by decide +kernel
theorem dX4_changed_198 : decode cX4_changed 198 = .ok (.iconst 0, 1) := by decide +kernel
theorem dX4_changed_199 : decode cX4_changed 199 = .ok (.istore 8, 2) := by decide +kernel
theorem dX4_changed_201 : decode cX4_changed 201 = .ok (.iload_n 1, 1) := by decide +kernel
theorem dX4_changed_202 : decode cX4_changed 202 = .ok (.tableswitch 178 0 6 #[42, 61, 93, 124, 137, 152, 152], 42) := by decide +kernel
theorem dX4_changed_244 : decode cX4_changed 244 = .ok (.aload_n 2, 1) := by decide +kernel
theorem dX4_changed_245 : decode cX4_changed 245 = .ok (.iload 6, 2) := by decide +kernel
theorem dX4_changed_247 : decode cX4_changed 247 = .ok (.aload_n 0, 1) := by decide +kernel
theorem dX4_changed_248 : decode cX4_changed 248 = .ok (.iload 6, 2) := by decide +kernel
theorem dX4_changed_250 : decode cX4_changed 250 = .ok (.baload, 1) := by decide +kernel
theorem dX4_changed_251 : decode cX4_changed 251 = .ok (.ifCond .ne 7, 3) := by decide +kernel
theorem dX4_changed_254 : decode cX4_changed 254 = .ok (.iconst 1, 1) := by decide +kernel
theorem dX4_changed_255 : decode cX4_changed 255 = .ok (.goto 4, 3) := by decide +kernel
theorem dX4_changed_258 : decode cX4_changed 258 = .ok (.iconst 0, 1) := by decide +kernel
theorem dX4_changed_259 : decode cX4_changed 259 = .ok (.bastore, 1) := by decide +kernel
theorem dX4_changed_260 : decode cX4_changed 260 = .ok (.goto 125, 3) := by decide +kernel
theorem dX4_changed_263 : decode cX4_changed 263 = .ok (.aload_n 2, 1) := by decide +kernel
theorem dX4_changed_264 : decode cX4_changed 264 = .ok (.iload 6, 2) := by decide +kernel
theorem dX4_changed_266 : decode cX4_changed 266 = .ok (.aload_n 0, 1) := by decide +kernel
theorem dX4_changed_267 : decode cX4_changed 267 = .ok (.iload 6, 2) := by decide +kernel
theorem dX4_changed_269 : decode cX4_changed 269 = .ok (.baload, 1) := by decide +kernel
theorem dX4_changed_270 : decode cX4_changed 270 = .ok (.ifCond .eq 20, 3) := by decide +kernel
theorem dX4_changed_273 : decode cX4_changed 273 = .ok (.iload 6, 2) := by decide +kernel
theorem dX4_changed_275 : decode cX4_changed 275 = .ok (.iconst 2, 1) := by decide +kernel
theorem dX4_changed_276 : decode cX4_changed 276 = .ok (.irem, 1) := by decide +kernel
theorem dX4_changed_277 : decode cX4_changed 277 = .ok (.iconst 1, 1) := by decide +kernel
theorem dX4_changed_278 : decode cX4_changed 278 = .ok (.if_icmp .eq 8, 3) := by decide +kernel
theorem dX4_changed_281 : decode cX4_changed 281 = .ok (.iload 8, 2) := by decide +kernel
theorem dX4_changed_283 : decode cX4_changed 283 = .ok (.ifCond .eq 7, 3) := by decide +kernel
theorem dX4_changed_286 : decode cX4_changed 286 = .ok (.iconst 1, 1) := by decide +kernel
theorem dX4_changed_287 : decode cX4_changed 287 = .ok (.goto 4, 3) := by decide +kernel
theorem dX4_changed_290 : decode cX4_changed 290 = .ok (.iconst 0, 1) := by decide +kernel
theorem dX4_changed_291 : decode cX4_changed 291 = .ok (.bastore, 1) := by decide +kernel
theorem dX4_changed_292 : decode cX4_changed 292 = .ok (.goto 93, 3) := by decide +kernel
theorem dX4_changed_295 : decode cX4_changed 295 = .ok (.aload_n 2, 1) := by decide +kernel
theorem dX4_changed_296 : decode cX4_changed 296 = .ok (.iload 6, 2) := by decide +kernel
theorem dX4_changed_298 : decode cX4_changed 298 = .ok (.aload_n 0, 1) := by decide +kernel
theorem dX4_changed_299 : decode cX4_changed 299 = .ok (.iload 6, 2) := by decide +kernel
theorem dX4_changed_301 : decode cX4_changed 301 = .ok (.baload, 1) := by decide +kernel
theorem dX4_changed_302 : decode cX4_changed 302 = .ok (.ifCond .ne 15, 3) := by decide +kernel
theorem dX4_changed_305 : decode cX4_changed 305 = .ok (.iload 6, 2) := by decide +kernel
theorem dX4_changed_307 : decode cX4_changed 307 = .ok (.iconst 2, 1) := by decide +kernel
theorem dX4_changed_308 : decode cX4_changed 308 = .ok (.irem, 1) := by decide +kernel
theorem dX4_changed_309 : decode cX4_changed 309 = .ok (.ifCond .ne 12, 3) := by decide +kernel
theorem dX4_changed_312 : decode cX4_changed 312 = .ok (.iload 7, 2) := by decide +kernel
theorem dX4_changed_314 : decode cX4_changed 314 = .ok (.ifCond .eq 7, 3) := by decide +kernel
theorem dX4_changed_317 : decode cX4_changed 317 = .ok (.iconst 1, 1) := by decide +kernel
theorem dX4_changed_318 : decode cX4_changed 318 = .ok (.goto 4, 3) := by decide +kernel
theorem dX4_changed_321 : decode cX4_changed 321 = .ok (.iconst 0, 1) := by decide +kernel
theorem dX4_changed_322 : decode cX4_changed 322 = .ok (.bastore, 1) := by decide +kernel
theorem dX4_changed_323 : decode cX4_changed 323 = .ok (.goto 62, 3) := by decide +kernel
theorem dX4_changed_326 : decode cX4_changed 326 = .ok (.aload_n 2, 1) := by decide +kernel
theorem dX4_changed_327 : decode cX4_changed 327 = .ok (.iload 6, 2) := by decide +kernel
theorem dX4_changed_329 : decode cX4_changed 329 = .ok (.aload_n 0, 1) := by decide +kernel
theorem dX4_changed_330 : decode cX4_changed 330 = .ok (.iload 6, 2) := by decide +kernel
theorem dX4_changed_332 : decode cX4_changed 332 = .ok (.invokestatic 40, 3) := by decide +kernel
theorem dX4_changed_335 : decode cX4_changed 335 = .ok (.bastore, 1) := by decide +kernel
theorem dX4_changed_336 : decode cX4_changed 336 = .ok (.goto 49, 3) := by decide +kernel
theorem dX4_changed_339 : decode cX4_changed 339 = .ok (.aload_n 2, 1) := by decide +kernel
theorem dX4_changed_340 : decode cX4_changed 340 = .ok (.iload 6, 2) := by decide +kernel
theorem dX4_changed_342 : decode cX4_changed 342 = .ok (.aload_n 0, 1) := by decide +kernel
theorem dX4_changed_343 : decode cX4_changed 343 = .ok (.sipush 200, 3) := by decide +kernel
theorem dX4_changed_346 : decode cX4_changed 346 = .ok (.iload 6, 2) := by decide +kernel
theorem dX4_changed_348 : decode cX4_changed 348 = .ok (.isub, 1) := by decide +kernel
theorem dX4_changed_349 : decode cX4_changed 349 = .ok (.baload, 1) := by decide +kernel
theorem dX4_changed_350 : decode cX4_changed 350 = .ok (.bastore, 1) := by decide +kernel
theorem dX4_changed_351 : decode cX4_changed 351 = .ok (.goto 34, 3) := by decide +kernel
theorem dX4_changed_354 : decode cX4_changed 354 = .ok (.aload_n 2, 1) := by decide +kernel
theorem dX4_changed_355 : decode cX4_changed 355 = .ok (.iload 6, 2) := by decide +kernel
theorem dX4_changed_357 : decode cX4_changed 357 = .ok (.iload 6, 2) := by decide +kernel
theorem dX4_changed_359 : decode cX4_changed 359 = .ok (.iload 4, 2) := by decide +kernel
theorem dX4_changed_361 : decode cX4_changed 361 = .ok (.if_icmp .lt 14, 3) := by decide +kernel
theorem dX4_changed_364 : decode cX4_changed 364 = .ok (.iload 6, 2) := by decide +kernel
theorem dX4_changed_366 : decode cX4_changed 366 = .ok (.iload 5, 2) := by decide +kernel
theorem dX4_changed_368 : decode cX4_changed 368 = .ok (.if_icmp .ge 7, 3) := by decide +kernel
theorem dX4_changed_371 : decode cX4_changed 371 = .ok (.iconst 1, 1) := by decide +kernel
theorem dX4_changed_372 : decode cX4_changed 372 = .ok (.goto 4, 3) := by decide +kernel
theorem dX4_changed_375 : decode cX4_changed 375 = .ok (.iconst 0, 1) := by decide +kernel
theorem dX4_changed_376 : decode cX4_changed 376 = .ok (.bastore, 1) := by decide +kernel
theorem dX4_changed_377 : decode cX4_changed 377 = .ok (.goto 8, 3) := by decide +kernel
theorem dX4_changed_380 : decode cX4_changed 380 = .ok (.aload_n 2, 1) := by decide +kernel
theorem dX4_changed_381 : decode cX4_changed 381 = .ok (.iload 6, 2) := by decide +kernel
theorem dX4_changed_383 : decode cX4_changed 383 = .ok (.iconst 0, 1) := by decide +kernel
theorem dX4_changed_384 : decode cX4_changed 384 = .ok (.bastore, 1) := by decide +kernel
theorem dX4_changed_385 : decode cX4_changed 385 = .ok (.iinc 6 1, 3) := by decide +kernel
theorem dX4_changed_388 : decode cX4_changed 388 = .ok (.goto (-262), 3) := by decide +kernel
theorem dX4_changed_391 : decode cX4_changed 391 = .ok (.aload_n 2, 1) := by decide +kernel
theorem dX4_changed_392 : decode cX4_changed 392 = .ok (.areturn, 1) := by decide +kernel
set_option maxRecDepth 20000 in
theorem ggX4_change_X4_isSet : GoodIn wsX4_change wsX4_isSet := goodIn_r _ [6, 7, 8, 5, 9] (by decide +kernel) (by decide +kernel)
set_option maxRecDepth 20000 in
theorem gX4_change_X4_isSet : GoodIn wsX4_change (va_wsS RX4 47 yX4_isSet wsX4_isSet) := goodIn_app (goodIn_of _ (by decide +kernel)) ggX4_change_X4_isSet
set_option maxRecDepth 20000 in
theorem ggX4_change_X4_no : GoodIn wsX4_change wsX4_no := goodIn_r _ [13, 1, 40, 41, 42] (by decide +kernel) (by decide +kernel)
set_option maxRecDepth 20000 in
theorem gX4_change_X4_no : GoodIn wsX4_change (wsV RX4 51 RX4 yX4_no wsX4_no) := goodIn_app (goodIn_of _ (by decide +kernel)) ggX4_change_X4_no
set_option maxRecDepth 20000 in
theorem ggX4_change_X4_isIn : GoodIn wsX4_change wsX4_isIn := goodIn_r _ [9] (by decide +kernel) (by decide +kernel)
set_option maxRecDepth 20000 in
theorem gX4_change_X4_isIn : GoodIn wsX4_change (va_wsS RX4 23 yX4_isIn wsX4_isIn) := goodIn_app (goodIn_of _ (by decide +kernel)) ggX4_change_X4_isIn
set_option maxRecDepth 20000 in
theorem ggX4_change_X4_changed : GoodIn wsX4_change wsX4_changed := goodIn_r _ [16, 17, 18, 19, 5, 20, 21, 22, 23, 24, 25, 26, 27, 28, 29, 30, 31, 32, 33, 34, 35, 36] (by decide +kernel) (by decide +kernel)
set_option maxRecDepth 20000 in
theorem gX4_change_X4_changed : GoodIn wsX4_change (va_wsS RX4 69 yX4_changed wsX4_changed) := goodIn_app (goodIn_of _ (by decide +kernel)) ggX4_change_X4_changed
set_option maxRecDepth 20000 in
theorem ggX4_change_X4_count : GoodIn wsX4_change wsX4_count := goodIn_r _ [39] (by decide +kernel) (by decide +kernel)
set_option maxRecDepth 20000 in
theorem gX4_change_X4_count : GoodIn wsX4_change (va_wsS RX4 62 yX4_count wsX4_count) := goodIn_app (goodIn_of _ (by decide +kernel)) ggX4_change_X4_count
theorem dX4_change_0 : decode cX4_change 0 = .ok (.aload_n 0, 1) := by decide +kernel
theorem dX4_change_1 : decode cX4_change 1 = .ok (.iconst 0, 1) := by decide +kernel
theorem dX4_change_2 : decode cX4_change 2 = .ok (.putfield 19, 3) := by decide +kernel
theorem dX4_change_5 : decode cX4_change 5 = .ok (.iload_n 1, 1) := by decide +kernel
theorem dX4_change_6 : decode cX4_change 6 = .ok (.invokestatic 47, 3) := by decide +kernel
theorem dX4_change_9 : decode cX4_change 9 = .ok (.ifCond .ne 9, 3) := by decide +kernel
theorem dX4_change_12 : decode cX4_change 12 = .ok (.aload_n 0, 1) := by decide +kernel
theorem dX4_change_13 : decode cX4_change 13 = .ok (.iconst 1, 1) := by decide +kernel
theorem dX4_change_14 : decode cX4_change 14 = .ok (.invokevirtual 51, 3) := by decide +kernel
theorem dX4_change_17 : decode cX4_change 17 = .ok (.ireturn, 1) := by decide +kernel
theorem dX4_change_18 : decode cX4_change 18 = .ok (.iload_n 2, 1) := by decide +kernel
theorem dX4_change_19 : decode cX4_change 19 = .ok (.iconst 0, 1) := by decide +kernel
theorem dX4_change_20 : decode cX4_change 20 = .ok (.bipush 7, 2) := by decide +kernel
theorem dX4_change_22 : decode cX4_change 22 = .ok (.invokestatic 23, 3) := by decide +kernel
theorem dX4_change_25 : decode cX4_change 25 = .ok (.ifCond .ne 9, 3) := by decide +kernel
theorem dX4_change_28 : decode cX4_change 28 = .ok (.aload_n 0, 1) := by decide +kernel
theorem dX4_change_29 : decode cX4_change 29 = .ok (.iconst 2, 1) := by decide +kernel
theorem dX4_change_30 : decode cX4_change 30 = .ok (.invokevirtual 51, 3) := by decide +kernel
theorem dX4_change_33 : decode cX4_change 33 = .ok (.ireturn, 1) := by decide +kernel
theorem dX4_change_34 : decode cX4_change 34 = .ok (.aload_n 0, 1) := by decide +kernel
theorem dX4_change_35 : decode cX4_change 35 = .ok (.getfield 11, 3) := by decide +kernel
theorem dX4_change_38 : decode cX4_change 38 = .ok (.iload_n 1, 1) := by decide +kernel
theorem dX4_change_39 : decode cX4_change 39 = .ok (.aload_n 0, 1) := by decide +kernel
theorem dX4_change_40 : decode cX4_change 40 = .ok (.getfield 11, 3) := by decide +kernel
theorem dX4_change_43 : decode cX4_change 43 = .ok (.iload_n 1, 1) := by decide +kernel
theorem dX4_change_44 : decode cX4_change 44 = .ok (.aaload, 1) := by decide +kernel
theorem dX4_change_45 : decode cX4_change 45 = .ok (.iload_n 2, 1) := by decide +kernel
theorem dX4_change_46 : decode cX4_change 46 = .ok (.invokestatic 69, 3) := by decide +kernel
theorem dX4_change_49 : decode cX4_change 49 = .ok (.aastore, 1) := by decide +kernel
theorem dX4_change_50 : decode cX4_change 50 = .ok (.aload_n 0, 1) := by decide +kernel
theorem dX4_change_51 : decode cX4_change 51 = .ok (.getfield 11, 3) := by decide +kernel
theorem dX4_change_54 : decode cX4_change 54 = .ok (.iload_n 1, 1) := by decide +kernel
theorem dX4_change_55 : decode cX4_change 55 = .ok (.aaload, 1) := by decide +kernel
theorem dX4_change_56 : decode cX4_change 56 = .ok (.invokestatic 62, 3) := by decide +kernel
theorem dX4_change_59 : decode cX4_change 59 = .ok (.ireturn, 1) := by decide +kernel
set_option maxRecDepth 20000 in
theorem ggX4_moved_X4_isAt : GoodIn wsX4_moved wsX4_isAt := goodIn_r _ [5] (by decide +kernel) (by decide +kernel)
set_option maxRecDepth 20000 in
theorem gX4_moved_X4_isAt : GoodIn wsX4_moved (va_wsS RX4 44 yX4_isAt wsX4_isAt) := goodIn_app (goodIn_of _ (by decide +kernel)) ggX4_moved_X4_isAt
theorem dX4_moved_0 : decode cX4_moved 0 = .ok (.sipush 201, 3) := by decide +kernel
theorem dX4_moved_3 : decode cX4_moved 3 = .ok (.newarray .boolean, 2) := by decide +kernel
theorem dX4_moved_5 : decode cX4_moved 5 = .ok (.astore_n 2, 1) := by decide +kernel
theorem dX4_moved_6 : decode cX4_moved 6 = .ok (.iconst 0, 1) := by decide +kernel
theorem dX4_moved_7 : decode cX4_moved 7 = .ok (.istore_n 3, 1) := by decide +kernel
theorem dX4_moved_8 : decode cX4_moved 8 = .ok (.iload_n 3, 1) := by decide +kernel
theorem dX4_moved_9 : decode cX4_moved 9 = .ok (.sipush 201, 3) := by decide +kernel
theorem dX4_moved_12 : decode cX4_moved 12 = .ok (.if_icmp .ge 21, 3) := by decide +kernel
theorem dX4_moved_15 : decode cX4_moved 15 = .ok (.aload_n 2, 1) := by decide +kernel
theorem dX4_moved_16 : decode cX4_moved 16 = .ok (.iload_n 3, 1) := by decide +kernel
theorem dX4_moved_17 : decode cX4_moved 17 = .ok (.aload_n 0, 1) := by decide +kernel
theorem dX4_moved_18 : decode cX4_moved 18 = .ok (.iload_n 3, 1) := by decide +kernel
theorem dX4_moved_19 : decode cX4_moved 19 = .ok (.iconst 2, 1) := by decide +kernel
theorem dX4_moved_20 : decode cX4_moved 20 = .ok (.iload_n 1, 1) := by decide +kernel
theorem dX4_moved_21 : decode cX4_moved 21 = .ok (.imul, 1) := by decide +kernel
theorem dX4_moved_22 : decode cX4_moved 22 = .ok (.isub, 1) := by decide +kernel
theorem dX4_moved_23 : decode cX4_moved 23 = .ok (.invokestatic 44, 3) := by decide +kernel
theorem dX4_moved_26 : decode cX4_moved 26 = .ok (.bastore, 1) := by decide +kernel
theorem dX4_moved_27 : decode cX4_moved 27 = .ok (.iinc 3 1, 3) := by decide +kernel
theorem dX4_moved_30 : decode cX4_moved 30 = .ok (.goto (-22), 3) := by decide +kernel
theorem dX4_moved_33 : decode cX4_moved 33 = .ok (.aload_n 2, 1) := by decide +kernel
theorem dX4_moved_34 : decode cX4_moved 34 = .ok (.areturn, 1) := by decide +kernel
set_option maxRecDepth 20000 in
theorem ggX4_move_X4_isSet : GoodIn wsX4_move wsX4_isSet := goodIn_r _ [6, 7, 8, 5, 9] (by decide +kernel) (by decide +kernel)
set_option maxRecDepth 20000 in
theorem gX4_move_X4_isSet : GoodIn wsX4_move (va_wsS RX4 47 yX4_isSet wsX4_isSet) := goodIn_app (goodIn_of _ (by decide +kernel)) ggX4_move_X4_isSet
set_option maxRecDepth 20000 in
theorem ggX4_move_X4_no : GoodIn wsX4_move wsX4_no := goodIn_r _ [13, 1, 24, 25, 26] (by decide +kernel) (by decide +kernel)
set_option maxRecDepth 20000 in
theorem gX4_move_X4_no : GoodIn wsX4_move (wsV RX4 51 RX4 yX4_no wsX4_no) := goodIn_app (goodIn_of _ (by decide +kernel)) ggX4_move_X4_no
set_option maxRecDepth 20000 in
theorem ggX4_move_X4_isIn : GoodIn wsX4_move wsX4_isIn := goodIn_r _ [9] (by decide +kernel) (by decide +kernel)
set_option maxRecDepth 20000 in
theorem gX4_move_X4_isIn : GoodIn wsX4_move (va_wsS RX4 23 yX4_isIn wsX4_isIn) := goodIn_app (goodIn_of _ (by decide +kernel)) ggX4_move_X4_isIn
set_option maxRecDepth 20000 in
theorem ggX4_move_X4_moved : GoodIn wsX4_move wsX4_moved := goodIn_r _ [16, 17, 18, 19, 5, 20] (by decide +kernel) (by decide +kernel)
set_option maxRecDepth 20000 in
theorem gX4_move_X4_moved : GoodIn wsX4_move (va_wsS RX4 73 yX4_moved wsX4_moved) := goodIn_app (goodIn_of _ (by decide +kernel)) ggX4_move_X4_moved
set_option maxRecDepth 20000 in
theorem ggX4_move_X4_count : GoodIn wsX4_move wsX4_count := goodIn_r _ [23] (by decide +kernel) (by decide +kernel)
set_option maxRecDepth 20000 in
theorem gX4_move_X4_count : GoodIn wsX4_move (va_wsS RX4 62 yX4_count wsX4_count) := goodIn_app (goodIn_of _ (by decide +kernel)) ggX4_move_X4_count
theorem dX4_move_0 : decode cX4_move 0 = .ok (.aload_n 0, 1) := by decide +kernel
theorem dX4_move_1 : decode cX4_move 1 = .ok (.iconst 0, 1) := by decide +kernel
theorem dX4_move_2 : decode cX4_move 2 = .ok (.putfield 19, 3) := by decide +kernel
theorem dX4_move_5 : decode cX4_move 5 = .ok (.iload_n 1, 1) := by decide +kernel
theorem dX4_move_6 : decode cX4_move 6 = .ok (.invokestatic 47, 3) := by decide +kernel
theorem dX4_move_9 : decode cX4_move 9 = .ok (.ifCond .ne 9, 3) := by decide +kernel
theorem dX4_move_12 : decode cX4_move 12 = .ok (.aload_n 0, 1) := by decide +kernel
theorem dX4_move_13 : decode cX4_move 13 = .ok (.iconst 1, 1) := by decide +kernel
theorem dX4_move_14 : decode cX4_move 14 = .ok (.invokevirtual 51, 3) := by decide +kernel
theorem dX4_move_17 : decode cX4_move 17 = .ok (.ireturn, 1) := by decide +kernel
theorem dX4_move_18 : decode cX4_move 18 = .ok (.iload_n 2, 1) := by decide +kernel
theorem dX4_move_19 : decode cX4_move 19 = .ok (.bipush (-100), 2) := by decide +kernel
theorem dX4_move_21 : decode cX4_move 21 = .ok (.bipush 100, 2) := by decide +kernel
theorem dX4_move_23 : decode cX4_move 23 = .ok (.invokestatic 23, 3) := by decide +kernel
theorem dX4_move_26 : decode cX4_move 26 = .ok (.ifCond .ne 9, 3) := by decide +kernel
theorem dX4_move_29 : decode cX4_move 29 = .ok (.aload_n 0, 1) := by decide +kernel
theorem dX4_move_30 : decode cX4_move 30 = .ok (.iconst 2, 1) := by decide +kernel
theorem dX4_move_31 : decode cX4_move 31 = .ok (.invokevirtual 51, 3) := by decide +kernel
theorem dX4_move_34 : decode cX4_move 34 = .ok (.ireturn, 1) := by decide +kernel
theorem dX4_move_35 : decode cX4_move 35 = .ok (.aload_n 0, 1) := by decide +kernel
theorem dX4_move_36 : decode cX4_move 36 = .ok (.getfield 11, 3) := by decide +kernel
theorem dX4_move_39 : decode cX4_move 39 = .ok (.iload_n 1, 1) := by decide +kernel
theorem dX4_move_40 : decode cX4_move 40 = .ok (.aload_n 0, 1) := by decide +kernel
theorem dX4_move_41 : decode cX4_move 41 = .ok (.getfield 11, 3) := by decide +kernel
theorem dX4_move_44 : decode cX4_move 44 = .ok (.iload_n 1, 1) := by decide +kernel
theorem dX4_move_45 : decode cX4_move 45 = .ok (.aaload, 1) := by decide +kernel
theorem dX4_move_46 : decode cX4_move 46 = .ok (.iload_n 2, 1) := by decide +kernel
theorem dX4_move_47 : decode cX4_move 47 = .ok (.invokestatic 73, 3) := by decide +kernel
theorem dX4_move_50 : decode cX4_move 50 = .ok (.aastore, 1) := by decide +kernel
theorem dX4_move_51 : decode cX4_move 51 = .ok (.aload_n 0, 1) := by decide +kernel
theorem dX4_move_52 : decode cX4_move 52 = .ok (.getfield 11, 3) := by decide +kernel
theorem dX4_move_55 : decode cX4_move 55 = .ok (.iload_n 1, 1) := by decide +kernel
theorem dX4_move_56 : decode cX4_move 56 = .ok (.aaload, 1) := by decide +kernel
theorem dX4_move_57 : decode cX4_move 57 = .ok (.invokestatic 62, 3) := by decide +kernel
theorem dX4_move_60 : decode cX4_move 60 = .ok (.ireturn, 1) := by decide +kernel
set_option maxRecDepth 20000 in
theorem ggX4_stretch_X4_isSet : GoodIn wsX4_stretch wsX4_isSet := goodIn_r _ [7, 8, 9, 6, 10] (by decide +kernel) (by decide +kernel)
set_option maxRecDepth 20000 in
theorem gX4_stretch_X4_isSet : GoodIn wsX4_stretch (va_wsS RX4 47 yX4_isSet wsX4_isSet) := goodIn_app (goodIn_of _ (by decide +kernel)) ggX4_stretch_X4_isSet
set_option maxRecDepth 20000 in
theorem ggX4_stretch_X4_no : GoodIn wsX4_stretch wsX4_no := goodIn_r _ [14, 1, 18, 19, 20] (by decide +kernel) (by decide +kernel)
set_option maxRecDepth 20000 in
theorem gX4_stretch_X4_no : GoodIn wsX4_stretch (wsV RX4 51 RX4 yX4_no wsX4_no) := goodIn_app (goodIn_of _ (by decide +kernel)) ggX4_stretch_X4_no
set_option maxRecDepth 20000 in
theorem ggX4_stretch_X4_isIn : GoodIn wsX4_stretch wsX4_isIn := goodIn_r _ [10] (by decide +kernel) (by decide +kernel)
set_option maxRecDepth 20000 in
theorem gX4_stretch_X4_isIn : GoodIn wsX4_stretch (va_wsS RX4 23 yX4_isIn wsX4_isIn) := goodIn_app (goodIn_of _ (by decide +kernel)) ggX4_stretch_X4_isIn
set_option maxRecDepth 20000 in
theorem ggX4_stretch_X4_count : GoodIn wsX4_stretch wsX4_count := goodIn_r _ [17] (by decide +kernel) (by decide +kernel)
set_option maxRecDepth 20000 in
theorem gX4_stretch_X4_count : GoodIn wsX4_stretch (va_wsS RX4 62 yX4_count wsX4_count) := goodIn_app (goodIn_of _ (by decide +kernel)) ggX4_stretch_X4_count
theorem dX4_stretch_0 : decode cX4_stretch 0 = .ok (.aload_n 0, 1) := by decide +kernel
theorem dX4_stretch_1 : decode cX4_stretch 1 = .ok (.iconst 0, 1) := by decide +kernel
theorem dX4_stretch_2 : decode cX4_stretch 2 = .ok (.putfield 19, 3) := by decide +kernel
theorem dX4_stretch_5 : decode cX4_stretch 5 = .ok (.iload_n 1, 1) := by decide +kernel
theorem dX4_stretch_6 : decode cX4_stretch 6 = .ok (.invokestatic 47, 3) := by decide +kernel
theorem dX4_stretch_9 : decode cX4_stretch 9 = .ok (.ifCond .ne 9, 3) := by decide +kernel
theorem dX4_stretch_12 : decode cX4_stretch 12 = .ok (.aload_n 0, 1) := by decide +kernel
theorem dX4_stretch_13 : decode cX4_stretch 13 = .ok (.iconst 1, 1) := by decide +kernel
theorem dX4_stretch_14 : decode cX4_stretch 14 = .ok (.invokevirtual 51, 3) := by decide +kernel
theorem dX4_stretch_17 : decode cX4_stretch 17 = .ok (.ireturn, 1) := by decide +kernel
theorem dX4_stretch_18 : decode cX4_stretch 18 = .ok (.iload_n 2, 1) := by decide +kernel
theorem dX4_stretch_19 : decode cX4_stretch 19 = .ok (.iconst 2, 1) := by decide +kernel
theorem dX4_stretch_20 : decode cX4_stretch 20 = .ok (.bipush 10, 2) := by decide +kernel
theorem dX4_stretch_22 : decode cX4_stretch 22 = .ok (.invokestatic 23, 3) := by decide +kernel
theorem dX4_stretch_25 : decode cX4_stretch 25 = .ok (.ifCond .ne 9, 3) := by decide +kernel
theorem dX4_stretch_28 : decode cX4_stretch 28 = .ok (.aload_n 0, 1) := by decide +kernel
theorem dX4_stretch_29 : decode cX4_stretch 29 = .ok (.iconst 2, 1) := by decide +kernel
theorem dX4_stretch_30 : decode cX4_stretch 30 = .ok (.invokevirtual 51, 3) := by decide +kernel
theorem dX4_stretch_33 : decode cX4_stretch 33 = .ok (.ireturn, 1) := by decide +kernel
theorem dX4_stretch_34 : decode cX4_stretch 34 = .ok (.sipush 201, 3) := by decide +kernel
theorem dX4_stretch_37 : decode cX4_stretch 37 = .ok (.newarray .boolean, 2) := by decide +kernel
theorem dX4_stretch_39 : decode cX4_stretch 39 = .ok (.astore_n 3, 1) := by decide +kernel
theorem dX4_stretch_40 : decode cX4_stretch 40 = .ok (.iconst 0, 1) := by decide +kernel
theorem dX4_stretch_41 : decode cX4_stretch 41 = .ok (.istore 4, 2) := by decide +kernel
theorem dX4_stretch_43 : decode cX4_stretch 43 = .ok (.iload 4, 2) := by decide +kernel
theorem dX4_stretch_45 : decode cX4_stretch 45 = .ok (.sipush 201, 3) := by decide +kernel
theorem dX4_stretch_48 : decode cX4_stretch 48 = .ok (.if_icmp .ge 53, 3) := by decide +kernel
theorem dX4_stretch_51 : decode cX4_stretch 51 = .ok (.aload_n 3, 1) := by decide +kernel
theorem dX4_stretch_52 : decode cX4_stretch 52 = .ok (.iload 4, 2) := by decide +kernel
theorem dX4_stretch_54 : decode cX4_stretch 54 = .ok (.iload 4, 2) := by decide +kernel
theorem dX4_stretch_56 : decode cX4_stretch 56 = .ok (.iconst 2, 1) := by decide +kernel
theorem dX4_stretch_57 : decode cX4_stretch 57 = .ok (.iload_n 2, 1) := by decide +kernel
theorem dX4_stretch_58 : decode cX4_stretch 58 = .ok (.imul, 1) := by decide +kernel
theorem dX4_stretch_59 : decode cX4_stretch 59 = .ok (.irem, 1) := by decide +kernel
theorem dX4_stretch_60 : decode cX4_stretch 60 = .ok (.ifCond .ne 17, 3) := by decide +kernel
theorem dX4_stretch_63 : decode cX4_stretch 63 = .ok (.aload_n 0, 1) := by decide +kernel
theorem dX4_stretch_64 : decode cX4_stretch 64 = .ok (.getfield 11, 3) := by decide +kernel
theorem dX4_stretch_67 : decode cX4_stretch 67 = .ok (.iload_n 1, 1) := by decide +kernel
theorem dX4_stretch_68 : decode cX4_stretch 68 = .ok (.aaload, 1) := by decide +kernel
theorem dX4_stretch_69 : decode cX4_stretch 69 = .ok (.iload 4, 2) := by decide +kernel
theorem dX4_stretch_71 : decode cX4_stretch 71 = .ok (.iload_n 2, 1) := by decide +kernel
theorem dX4_stretch_72 : decode cX4_stretch 72 = .ok (.idiv, 1) := by decide +kernel
theorem dX4_stretch_73 : decode cX4_stretch 73 = .ok (.baload, 1) := by decide +kernel
theorem dX4_stretch_74 : decode cX4_stretch 74 = .ok (.goto 20, 3) := by decide +kernel
theorem dX4_stretch_77 : decode cX4_stretch 77 = .ok (.aload_n 0, 1) := by decide +kernel
theorem dX4_stretch_78 : decode cX4_stretch 78 = .ok (.getfield 11, 3) := by decide +kernel
theorem dX4_stretch_81 : decode cX4_stretch 81 = .ok (.iload_n 1, 1) := by decide +kernel
theorem dX4_stretch_82 : decode cX4_stretch 82 = .ok (.aaload, 1) := by decide +kernel
theorem dX4_stretch_83 : decode cX4_stretch 83 = .ok (.iconst 2, 1) := by decide +kernel
theorem dX4_stretch_84 : decode cX4_stretch 84 = .ok (.iload 4, 2) := by decide +kernel
theorem dX4_stretch_86 : decode cX4_stretch 86 = .ok (.iconst 2, 1) := by decide +kernel
theorem dX4_stretch_87 : decode cX4_stretch 87 = .ok (.iload_n 2, 1) := by decide +kernel
theorem dX4_stretch_88 : decode cX4_stretch 88 = .ok (.imul, 1) := by decide +kernel
theorem dX4_stretch_89 : decode cX4_stretch 89 = .ok (.idiv, 1) := by decide +kernel
theorem dX4_stretch_90 : decode cX4_stretch 90 = .ok (.imul, 1) := by decide +kernel
theorem dX4_stretch_91 : decode cX4_stretch 91 = .ok (.iconst 1, 1) := by decide +kernel
theorem dX4_stretch_92 : decode cX4_stretch 92 = .ok (.iadd, 1) := by decide +kernel
theorem dX4_stretch_93 : decode cX4_stretch 93 = .ok (.baload, 1) := by decide +kernel
theorem dX4_stretch_94 : decode cX4_stretch 94 = .ok (.bastore, 1) := by decide +kernel
theorem dX4_stretch_95 : decode cX4_stretch 95 = .ok (.iinc 4 1, 3) := by decide +kernel
theorem dX4_stretch_98 : decode cX4_stretch 98 = .ok (.goto (-55), 3) := by decide +kernel
theorem dX4_stretch_101 : decode cX4_stretch 101 = .ok (.aload_n 0, 1) := by decide +kernel
theorem dX4_stretch_102 : decode cX4_stretch 102 = .ok (.getfield 11, 3) := by decide +kernel
theorem dX4_stretch_105 : decode cX4_stretch 105 = .ok (.iload_n 1, 1) := by decide +kernel
theorem dX4_stretch_106 : decode cX4_stretch 106 = .ok (.aload_n 3, 1) := by decide +kernel
theorem dX4_stretch_107 : decode cX4_stretch 107 = .ok (.aastore, 1) := by decide +kernel
theorem dX4_stretch_108 : decode cX4_stretch 108 = .ok (.aload_n 3, 1) := by decide +kernel
theorem dX4_stretch_109 : decode cX4_stretch 109 = .ok (.invokestatic 62, 3) := by decide +kernel
theorem dX4_stretch_112 : decode cX4_stretch 112 = .ok (.ireturn, 1) := by decide +kernel
set_option maxRecDepth 20000 in
theorem ggX4_ofNow_X4_count : GoodIn wsX4_ofNow wsX4_count := goodIn_r _ [5] (by decide +kernel) (by decide +kernel)
set_option maxRecDepth 20000 in
theorem gX4_ofNow_X4_count : GoodIn wsX4_ofNow (va_wsS RX4 62 yX4_count wsX4_count) := goodIn_app (goodIn_of _ (by decide +kernel)) ggX4_ofNow_X4_count
set_option maxRecDepth 20000 in
theorem ggX4_ofNow_X4_spans : GoodIn wsX4_ofNow wsX4_spans := goodIn_r _ [8, 9, 10, 4, 11] (by decide +kernel) (by decide +kernel)
set_option maxRecDepth 20000 in
theorem gX4_ofNow_X4_spans : GoodIn wsX4_ofNow (va_wsS RX4 76 yX4_spans wsX4_spans) := goodIn_app (goodIn_of _ (by decide +kernel)) ggX4_ofNow_X4_spans
set_option maxRecDepth 20000 in
theorem ggX4_ofNow_X4_longOf_ : GoodIn wsX4_ofNow wsX4_longOf_ := goodIn_r _ [14] (by decide +kernel) (by decide +kernel)
set_option maxRecDepth 20000 in
theorem gX4_ofNow_X4_longOf_ : GoodIn wsX4_ofNow (va_wsS RX4 79 yX4_longOf_ wsX4_longOf_) := goodIn_app (goodIn_of _ (by decide +kernel)) ggX4_ofNow_X4_longOf_
set_option maxRecDepth 20000 in
theorem ggX4_ofNow_X4_alone : GoodIn wsX4_ofNow wsX4_alone := goodIn_r _ [17, 18, 19, 4, 20, 21, 22, 23] (by decide +kernel) (by decide +kernel)
set_option maxRecDepth 20000 in
theorem gX4_ofNow_X4_alone : GoodIn wsX4_ofNow (va_wsS RX4 81 yX4_alone wsX4_alone) := goodIn_app (goodIn_of _ (by decide +kernel)) ggX4_ofNow_X4_alone
set_option maxRecDepth 20000 in
theorem ggX4_ofNow_X4_others : GoodIn wsX4_ofNow wsX4_others := goodIn_r _ [26, 27] (by decide +kernel) (by decide +kernel)
set_option maxRecDepth 20000 in
theorem gX4_ofNow_X4_others : GoodIn wsX4_ofNow (va_wsS RX4 84 yX4_others wsX4_others) := goodIn_app (goodIn_of _ (by decide +kernel)) ggX4_ofNow_X4_others
set_option maxRecDepth 20000 in
theorem ggX4_ofNow_X4_longest : GoodIn wsX4_ofNow wsX4_longest := goodIn_r _ [30, 31, 32, 33, 34, 9, 10, 4, 11, 35, 36, 37] (by decide +kernel) (by decide +kernel)
set_option maxRecDepth 20000 in
theorem gX4_ofNow_X4_longest : GoodIn wsX4_ofNow (va_wsS RX4 66 yX4_longest wsX4_longest) := goodIn_app (goodIn_of _ (by decide +kernel)) ggX4_ofNow_X4_longest
theorem dX4_ofNow_0 : decode cX4_ofNow 0 = .ok (.aload_n 0, 1) := by decide +kernel
theorem dX4_ofNow_1 : decode cX4_ofNow 1 = .ok (.getfield 11, 3) := by decide +kernel
theorem dX4_ofNow_4 : decode cX4_ofNow 4 = .ok (.iload_n 1, 1) := by decide +kernel
theorem dX4_ofNow_5 : decode cX4_ofNow 5 = .ok (.aaload, 1) := by decide +kernel
theorem dX4_ofNow_6 : decode cX4_ofNow 6 = .ok (.astore_n 3, 1) := by decide +kernel
theorem dX4_ofNow_7 : decode cX4_ofNow 7 = .ok (.iload_n 2, 1) := by decide +kernel
theorem dX4_ofNow_8 : decode cX4_ofNow 8 = .ok (.tableswitch 64 0 4 #[36, 41, 46, 51, 56], 36) := by decide +kernel
theorem dX4_ofNow_44 : decode cX4_ofNow 44 = .ok (.aload_n 3, 1) := by decide +kernel
theorem dX4_ofNow_45 : decode cX4_ofNow 45 = .ok (.invokestatic 62, 3) := by decide +kernel
theorem dX4_ofNow_48 : decode cX4_ofNow 48 = .ok (.ireturn, 1) := by decide +kernel
theorem dX4_ofNow_49 : decode cX4_ofNow 49 = .ok (.aload_n 3, 1) := by decide +kernel
theorem dX4_ofNow_50 : decode cX4_ofNow 50 = .ok (.invokestatic 76, 3) := by decide +kernel
theorem dX4_ofNow_53 : decode cX4_ofNow 53 = .ok (.ireturn, 1) := by decide +kernel
theorem dX4_ofNow_54 : decode cX4_ofNow 54 = .ok (.aload_n 3, 1) := by decide +kernel
theorem dX4_ofNow_55 : decode cX4_ofNow 55 = .ok (.invokestatic 79, 3) := by decide +kernel
theorem dX4_ofNow_58 : decode cX4_ofNow 58 = .ok (.ireturn, 1) := by decide +kernel
theorem dX4_ofNow_59 : decode cX4_ofNow 59 = .ok (.aload_n 3, 1) := by decide +kernel
theorem dX4_ofNow_60 : decode cX4_ofNow 60 = .ok (.invokestatic 81, 3) := by decide +kernel
theorem dX4_ofNow_63 : decode cX4_ofNow 63 = .ok (.ireturn, 1) := by decide +kernel
theorem dX4_ofNow_64 : decode cX4_ofNow 64 = .ok (.aload_n 3, 1) := by decide +kernel
theorem dX4_ofNow_65 : decode cX4_ofNow 65 = .ok (.invokestatic 84, 3) := by decide +kernel
theorem dX4_ofNow_68 : decode cX4_ofNow 68 = .ok (.invokestatic 76, 3) := by decide +kernel
theorem dX4_ofNow_71 : decode cX4_ofNow 71 = .ok (.ireturn, 1) := by decide +kernel
theorem dX4_ofNow_72 : decode cX4_ofNow 72 = .ok (.aload_n 3, 1) := by decide +kernel
theorem dX4_ofNow_73 : decode cX4_ofNow 73 = .ok (.invokestatic 84, 3) := by decide +kernel
theorem dX4_ofNow_76 : decode cX4_ofNow 76 = .ok (.invokestatic 66, 3) := by decide +kernel
theorem dX4_ofNow_79 : decode cX4_ofNow 79 = .ok (.ireturn, 1) := by decide +kernel
set_option maxRecDepth 20000 in
theorem ggX4_ofSet_X4_isSet : GoodIn wsX4_ofSet wsX4_isSet := goodIn_r _ [5, 6, 7, 4, 8] (by decide +kernel) (by decide +kernel)
set_option maxRecDepth 20000 in
theorem gX4_ofSet_X4_isSet : GoodIn wsX4_ofSet (va_wsS RX4 47 yX4_isSet wsX4_isSet) := goodIn_app (goodIn_of _ (by decide +kernel)) ggX4_ofSet_X4_isSet
set_option maxRecDepth 20000 in
theorem ggX4_ofSet_X4_no : GoodIn wsX4_ofSet wsX4_no := goodIn_r _ [12, 1, 53, 54, 55] (by decide +kernel) (by decide +kernel)
set_option maxRecDepth 20000 in
theorem gX4_ofSet_X4_no : GoodIn wsX4_ofSet (wsV RX4 51 RX4 yX4_no wsX4_no) := goodIn_app (goodIn_of _ (by decide +kernel)) ggX4_ofSet_X4_no
set_option maxRecDepth 20000 in
theorem ggX4_ofSet_X4_isIn : GoodIn wsX4_ofSet wsX4_isIn := goodIn_r _ [8] (by decide +kernel) (by decide +kernel)
set_option maxRecDepth 20000 in
theorem gX4_ofSet_X4_isIn : GoodIn wsX4_ofSet (va_wsS RX4 23 yX4_isIn wsX4_isIn) := goodIn_app (goodIn_of _ (by decide +kernel)) ggX4_ofSet_X4_isIn
set_option maxRecDepth 20000 in
theorem ggX4_ofSet_X4_ofNow : GoodIn wsX4_ofSet wsX4_ofNow := goodIn_r _ [16, 17, 18, 19, 4, 20, 21, 22, 23, 24, 25, 26, 27, 28, 29, 30, 31, 32, 33, 34, 35, 36, 37, 38, 39, 40, 41, 42, 43, 44, 45, 46, 47, 48, 49, 50, 51, 52, 53, 54, 55] (by decide +kernel) (by decide +kernel)
set_option maxRecDepth 20000 in
theorem gX4_ofSet_X4_ofNow : GoodIn wsX4_ofSet (wsV RX4 88 RX4 yX4_ofNow wsX4_ofNow) := goodIn_app (goodIn_of _ (by decide +kernel)) ggX4_ofSet_X4_ofNow
theorem dX4_ofSet_0 : decode cX4_ofSet 0 = .ok (.aload_n 0, 1) := by decide +kernel
theorem dX4_ofSet_1 : decode cX4_ofSet 1 = .ok (.iconst 0, 1) := by decide +kernel
theorem dX4_ofSet_2 : decode cX4_ofSet 2 = .ok (.putfield 19, 3) := by decide +kernel
theorem dX4_ofSet_5 : decode cX4_ofSet 5 = .ok (.iload_n 1, 1) := by decide +kernel
theorem dX4_ofSet_6 : decode cX4_ofSet 6 = .ok (.invokestatic 47, 3) := by decide +kernel
theorem dX4_ofSet_9 : decode cX4_ofSet 9 = .ok (.ifCond .ne 9, 3) := by decide +kernel
theorem dX4_ofSet_12 : decode cX4_ofSet 12 = .ok (.aload_n 0, 1) := by decide +kernel
theorem dX4_ofSet_13 : decode cX4_ofSet 13 = .ok (.iconst 1, 1) := by decide +kernel
theorem dX4_ofSet_14 : decode cX4_ofSet 14 = .ok (.invokevirtual 51, 3) := by decide +kernel
theorem dX4_ofSet_17 : decode cX4_ofSet 17 = .ok (.ireturn, 1) := by decide +kernel
theorem dX4_ofSet_18 : decode cX4_ofSet 18 = .ok (.iload_n 2, 1) := by decide +kernel
theorem dX4_ofSet_19 : decode cX4_ofSet 19 = .ok (.iconst 0, 1) := by decide +kernel
theorem dX4_ofSet_20 : decode cX4_ofSet 20 = .ok (.iconst 5, 1) := by decide +kernel
theorem dX4_ofSet_21 : decode cX4_ofSet 21 = .ok (.invokestatic 23, 3) := by decide +kernel
theorem dX4_ofSet_24 : decode cX4_ofSet 24 = .ok (.ifCond .eq 12, 3) := by decide +kernel
theorem dX4_ofSet_27 : decode cX4_ofSet 27 = .ok (.aload_n 0, 1) := by decide +kernel
theorem dX4_ofSet_28 : decode cX4_ofSet 28 = .ok (.iload_n 1, 1) := by decide +kernel
theorem dX4_ofSet_29 : decode cX4_ofSet 29 = .ok (.iload_n 2, 1) := by decide +kernel
theorem dX4_ofSet_30 : decode cX4_ofSet 30 = .ok (.invokevirtual 88, 3) := by decide +kernel
theorem dX4_ofSet_33 : decode cX4_ofSet 33 = .ok (.goto 8, 3) := by decide +kernel
theorem dX4_ofSet_36 : decode cX4_ofSet 36 = .ok (.aload_n 0, 1) := by decide +kernel
theorem dX4_ofSet_37 : decode cX4_ofSet 37 = .ok (.iconst 2, 1) := by decide +kernel
theorem dX4_ofSet_38 : decode cX4_ofSet 38 = .ok (.invokevirtual 51, 3) := by decide +kernel
theorem dX4_ofSet_41 : decode cX4_ofSet 41 = .ok (.ireturn, 1) := by decide +kernel
theorem dX4_spanNow_0 : decode cX4_spanNow 0 = .ok (.iload_n 2, 1) := by decide +kernel
theorem dX4_spanNow_1 : decode cX4_spanNow 1 = .ok (.iconst 2, 1) := by decide +kernel
theorem dX4_spanNow_2 : decode cX4_spanNow 2 = .ok (.if_icmp .ge 19, 3) := by decide +kernel
theorem dX4_spanNow_5 : decode cX4_spanNow 5 = .ok (.iload_n 2, 1) := by decide +kernel
theorem dX4_spanNow_6 : decode cX4_spanNow 6 = .ok (.ifCond .ne 9, 3) := by decide +kernel
theorem dX4_spanNow_9 : decode cX4_spanNow 9 = .ok (.iload_n 0, 1) := by decide +kernel
theorem dX4_spanNow_10 : decode cX4_spanNow 10 = .ok (.iconst 2, 1) := by decide +kernel
theorem dX4_spanNow_11 : decode cX4_spanNow 11 = .ok (.idiv, 1) := by decide +kernel
theorem dX4_spanNow_12 : decode cX4_spanNow 12 = .ok (.goto 8, 3) := by decide +kernel
theorem dX4_spanNow_15 : decode cX4_spanNow 15 = .ok (.iload_n 1, 1) := by decide +kernel
theorem dX4_spanNow_16 : decode cX4_spanNow 16 = .ok (.iconst 1, 1) := by decide +kernel
theorem dX4_spanNow_17 : decode cX4_spanNow 17 = .ok (.iadd, 1) := by decide +kernel
theorem dX4_spanNow_18 : decode cX4_spanNow 18 = .ok (.iconst 2, 1) := by decide +kernel
theorem dX4_spanNow_19 : decode cX4_spanNow 19 = .ok (.idiv, 1) := by decide +kernel
theorem dX4_spanNow_20 : decode cX4_spanNow 20 = .ok (.ireturn, 1) := by decide +kernel
theorem dX4_spanNow_21 : decode cX4_spanNow 21 = .ok (.iload_n 0, 1) := by decide +kernel
theorem dX4_spanNow_22 : decode cX4_spanNow 22 = .ok (.iconst 2, 1) := by decide +kernel
theorem dX4_spanNow_23 : decode cX4_spanNow 23 = .ok (.irem, 1) := by decide +kernel
theorem dX4_spanNow_24 : decode cX4_spanNow 24 = .ok (.ifCond .ne 7, 3) := by decide +kernel
theorem dX4_spanNow_27 : decode cX4_spanNow 27 = .ok (.iconst 1, 1) := by decide +kernel
theorem dX4_spanNow_28 : decode cX4_spanNow 28 = .ok (.goto 4, 3) := by decide +kernel
theorem dX4_spanNow_31 : decode cX4_spanNow 31 = .ok (.iconst 0, 1) := by decide +kernel
theorem dX4_spanNow_32 : decode cX4_spanNow 32 = .ok (.iload_n 1, 1) := by decide +kernel
theorem dX4_spanNow_33 : decode cX4_spanNow 33 = .ok (.iconst 2, 1) := by decide +kernel
theorem dX4_spanNow_34 : decode cX4_spanNow 34 = .ok (.irem, 1) := by decide +kernel
theorem dX4_spanNow_35 : decode cX4_spanNow 35 = .ok (.ifCond .ne 7, 3) := by decide +kernel
theorem dX4_spanNow_38 : decode cX4_spanNow 38 = .ok (.iconst 2, 1) := by decide +kernel
theorem dX4_spanNow_39 : decode cX4_spanNow 39 = .ok (.goto 4, 3) := by decide +kernel
theorem dX4_spanNow_42 : decode cX4_spanNow 42 = .ok (.iconst 0, 1) := by decide +kernel
theorem dX4_spanNow_43 : decode cX4_spanNow 43 = .ok (.iadd, 1) := by decide +kernel
theorem dX4_spanNow_44 : decode cX4_spanNow 44 = .ok (.ireturn, 1) := by decide +kernel
set_option maxRecDepth 20000 in
theorem ggX4_ofSpan_X4_isSet : GoodIn wsX4_ofSpan wsX4_isSet := goodIn_r _ [6, 7, 8, 5, 9] (by decide +kernel) (by decide +kernel)
set_option maxRecDepth 20000 in
theorem gX4_ofSpan_X4_isSet : GoodIn wsX4_ofSpan (va_wsS RX4 47 yX4_isSet wsX4_isSet) := goodIn_app (goodIn_of _ (by decide +kernel)) ggX4_ofSpan_X4_isSet
set_option maxRecDepth 20000 in
theorem ggX4_ofSpan_X4_no : GoodIn wsX4_ofSpan wsX4_no := goodIn_r _ [13, 1, 23, 24, 25] (by decide +kernel) (by decide +kernel)
set_option maxRecDepth 20000 in
theorem gX4_ofSpan_X4_no : GoodIn wsX4_ofSpan (wsV RX4 51 RX4 yX4_no wsX4_no) := goodIn_app (goodIn_of _ (by decide +kernel)) ggX4_ofSpan_X4_no
set_option maxRecDepth 20000 in
theorem ggX4_ofSpan_X4_begin : GoodIn wsX4_ofSpan wsX4_begin := goodIn_r _ [16, 17, 18, 5, 19] (by decide +kernel) (by decide +kernel)
set_option maxRecDepth 20000 in
theorem gX4_ofSpan_X4_begin : GoodIn wsX4_ofSpan (va_wsS RX4 91 yX4_begin wsX4_begin) := goodIn_app (goodIn_of _ (by decide +kernel)) ggX4_ofSpan_X4_begin
set_option maxRecDepth 20000 in
theorem ggX4_ofSpan_X4_isIn : GoodIn wsX4_ofSpan wsX4_isIn := goodIn_r _ [9] (by decide +kernel) (by decide +kernel)
set_option maxRecDepth 20000 in
theorem gX4_ofSpan_X4_isIn : GoodIn wsX4_ofSpan (va_wsS RX4 23 yX4_isIn wsX4_isIn) := goodIn_app (goodIn_of _ (by decide +kernel)) ggX4_ofSpan_X4_isIn
set_option maxRecDepth 20000 in
theorem ggX4_ofSpan_X4_first : GoodIn wsX4_ofSpan wsX4_first := goodIn_r _ [19] (by decide +kernel) (by decide +kernel)
set_option maxRecDepth 20000 in
theorem gX4_ofSpan_X4_first : GoodIn wsX4_ofSpan (va_wsS RX4 27 yX4_first wsX4_first) := goodIn_app (goodIn_of _ (by decide +kernel)) ggX4_ofSpan_X4_first
set_option maxRecDepth 20000 in
theorem ggX4_ofSpan_X4_spanNow : GoodIn wsX4_ofSpan wsX4_spanNow := goodIn_r _ [22] (by decide +kernel) (by decide +kernel)
set_option maxRecDepth 20000 in
theorem gX4_ofSpan_X4_spanNow : GoodIn wsX4_ofSpan (va_wsS RX4 95 yX4_spanNow wsX4_spanNow) := goodIn_app (goodIn_of _ (by decide +kernel)) ggX4_ofSpan_X4_spanNow
theorem dX4_ofSpan_0 : decode cX4_ofSpan 0 = .ok (.aload_n 0, 1) := by decide +kernel
theorem dX4_ofSpan_1 : decode cX4_ofSpan 1 = .ok (.iconst 0, 1) := by decide +kernel
theorem dX4_ofSpan_2 : decode cX4_ofSpan 2 = .ok (.putfield 19, 3) := by decide +kernel
theorem dX4_ofSpan_5 : decode cX4_ofSpan 5 = .ok (.iload_n 1, 1) := by decide +kernel
theorem dX4_ofSpan_6 : decode cX4_ofSpan 6 = .ok (.invokestatic 47, 3) := by decide +kernel
theorem dX4_ofSpan_9 : decode cX4_ofSpan 9 = .ok (.ifCond .eq 7, 3) := by decide +kernel
theorem dX4_ofSpan_12 : decode cX4_ofSpan 12 = .ok (.iload_n 2, 1) := by decide +kernel
theorem dX4_ofSpan_13 : decode cX4_ofSpan 13 = .ok (.ifCond .ge 9, 3) := by decide +kernel
theorem dX4_ofSpan_16 : decode cX4_ofSpan 16 = .ok (.aload_n 0, 1) := by decide +kernel
theorem dX4_ofSpan_17 : decode cX4_ofSpan 17 = .ok (.iconst 1, 1) := by decide +kernel
theorem dX4_ofSpan_18 : decode cX4_ofSpan 18 = .ok (.invokevirtual 51, 3) := by decide +kernel
theorem dX4_ofSpan_21 : decode cX4_ofSpan 21 = .ok (.ireturn, 1) := by decide +kernel
theorem dX4_ofSpan_22 : decode cX4_ofSpan 22 = .ok (.aload_n 0, 1) := by decide +kernel
theorem dX4_ofSpan_23 : decode cX4_ofSpan 23 = .ok (.getfield 11, 3) := by decide +kernel
theorem dX4_ofSpan_26 : decode cX4_ofSpan 26 = .ok (.iload_n 1, 1) := by decide +kernel
theorem dX4_ofSpan_27 : decode cX4_ofSpan 27 = .ok (.aaload, 1) := by decide +kernel
theorem dX4_ofSpan_28 : decode cX4_ofSpan 28 = .ok (.iload_n 2, 1) := by decide +kernel
theorem dX4_ofSpan_29 : decode cX4_ofSpan 29 = .ok (.invokestatic 91, 3) := by decide +kernel
theorem dX4_ofSpan_32 : decode cX4_ofSpan 32 = .ok (.istore 4, 2) := by decide +kernel
theorem dX4_ofSpan_34 : decode cX4_ofSpan 34 = .ok (.iload 4, 2) := by decide +kernel
theorem dX4_ofSpan_36 : decode cX4_ofSpan 36 = .ok (.sipush 201, 3) := by decide +kernel
theorem dX4_ofSpan_39 : decode cX4_ofSpan 39 = .ok (.if_icmp .ne 9, 3) := by decide +kernel
theorem dX4_ofSpan_42 : decode cX4_ofSpan 42 = .ok (.aload_n 0, 1) := by decide +kernel
theorem dX4_ofSpan_43 : decode cX4_ofSpan 43 = .ok (.iconst 1, 1) := by decide +kernel
theorem dX4_ofSpan_44 : decode cX4_ofSpan 44 = .ok (.invokevirtual 51, 3) := by decide +kernel
theorem dX4_ofSpan_47 : decode cX4_ofSpan 47 = .ok (.ireturn, 1) := by decide +kernel
theorem dX4_ofSpan_48 : decode cX4_ofSpan 48 = .ok (.iload_n 3, 1) := by decide +kernel
theorem dX4_ofSpan_49 : decode cX4_ofSpan 49 = .ok (.iconst 0, 1) := by decide +kernel
theorem dX4_ofSpan_50 : decode cX4_ofSpan 50 = .ok (.iconst 2, 1) := by decide +kernel
theorem dX4_ofSpan_51 : decode cX4_ofSpan 51 = .ok (.invokestatic 23, 3) := by decide +kernel
theorem dX4_ofSpan_54 : decode cX4_ofSpan 54 = .ok (.ifCond .eq 26, 3) := by decide +kernel
theorem dX4_ofSpan_57 : decode cX4_ofSpan 57 = .ok (.iload 4, 2) := by decide +kernel
theorem dX4_ofSpan_59 : decode cX4_ofSpan 59 = .ok (.aload_n 0, 1) := by decide +kernel
theorem dX4_ofSpan_60 : decode cX4_ofSpan 60 = .ok (.getfield 11, 3) := by decide +kernel
theorem dX4_ofSpan_63 : decode cX4_ofSpan 63 = .ok (.iload_n 1, 1) := by decide +kernel
theorem dX4_ofSpan_64 : decode cX4_ofSpan 64 = .ok (.aaload, 1) := by decide +kernel
theorem dX4_ofSpan_65 : decode cX4_ofSpan 65 = .ok (.iload 4, 2) := by decide +kernel
theorem dX4_ofSpan_67 : decode cX4_ofSpan 67 = .ok (.iconst 0, 1) := by decide +kernel
theorem dX4_ofSpan_68 : decode cX4_ofSpan 68 = .ok (.invokestatic 27, 3) := by decide +kernel
theorem dX4_ofSpan_71 : decode cX4_ofSpan 71 = .ok (.iconst 1, 1) := by decide +kernel
theorem dX4_ofSpan_72 : decode cX4_ofSpan 72 = .ok (.isub, 1) := by decide +kernel
theorem dX4_ofSpan_73 : decode cX4_ofSpan 73 = .ok (.iload_n 3, 1) := by decide +kernel
theorem dX4_ofSpan_74 : decode cX4_ofSpan 74 = .ok (.invokestatic 95, 3) := by decide +kernel
theorem dX4_ofSpan_77 : decode cX4_ofSpan 77 = .ok (.goto 8, 3) := by decide +kernel
theorem dX4_ofSpan_80 : decode cX4_ofSpan 80 = .ok (.aload_n 0, 1) := by decide +kernel
theorem dX4_ofSpan_81 : decode cX4_ofSpan 81 = .ok (.iconst 2, 1) := by decide +kernel
theorem dX4_ofSpan_82 : decode cX4_ofSpan 82 = .ok (.invokevirtual 51, 3) := by decide +kernel
theorem dX4_ofSpan_85 : decode cX4_ofSpan 85 = .ok (.ireturn, 1) := by decide +kernel
set_option maxRecDepth 20000 in
theorem ggX4_has_X4_isSet : GoodIn wsX4_has wsX4_isSet := goodIn_r _ [6, 7, 8, 5, 9] (by decide +kernel) (by decide +kernel)
set_option maxRecDepth 20000 in
theorem gX4_has_X4_isSet : GoodIn wsX4_has (va_wsS RX4 47 yX4_isSet wsX4_isSet) := goodIn_app (goodIn_of _ (by decide +kernel)) ggX4_has_X4_isSet
set_option maxRecDepth 20000 in
theorem ggX4_has_X4_isIn : GoodIn wsX4_has wsX4_isIn := goodIn_r _ [9] (by decide +kernel) (by decide +kernel)
set_option maxRecDepth 20000 in
theorem gX4_has_X4_isIn : GoodIn wsX4_has (va_wsS RX4 23 yX4_isIn wsX4_isIn) := goodIn_app (goodIn_of _ (by decide +kernel)) ggX4_has_X4_isIn
theorem dX4_has_0 : decode cX4_has 0 = .ok (.aload_n 0, 1) := by decide +kernel
theorem dX4_has_1 : decode cX4_has 1 = .ok (.iload_n 1, 1) := by decide +kernel
theorem dX4_has_2 : decode cX4_has 2 = .ok (.invokestatic 47, 3) := by decide +kernel
theorem dX4_has_5 : decode cX4_has 5 = .ok (.ifCond .eq 18, 3) := by decide +kernel
theorem dX4_has_8 : decode cX4_has 8 = .ok (.iload_n 2, 1) := by decide +kernel
theorem dX4_has_9 : decode cX4_has 9 = .ok (.iconst 0, 1) := by decide +kernel
theorem dX4_has_10 : decode cX4_has 10 = .ok (.sipush 200, 3) := by decide +kernel
theorem dX4_has_13 : decode cX4_has 13 = .ok (.invokestatic 23, 3) := by decide +kernel
theorem dX4_has_16 : decode cX4_has 16 = .ok (.ifCond .eq 7, 3) := by decide +kernel
theorem dX4_has_19 : decode cX4_has 19 = .ok (.iconst 0, 1) := by decide +kernel
theorem dX4_has_20 : decode cX4_has 20 = .ok (.goto 4, 3) := by decide +kernel
theorem dX4_has_23 : decode cX4_has 23 = .ok (.iconst 1, 1) := by decide +kernel
theorem dX4_has_24 : decode cX4_has 24 = .ok (.putfield 19, 3) := by decide +kernel
theorem dX4_has_27 : decode cX4_has 27 = .ok (.aload_n 0, 1) := by decide +kernel
theorem dX4_has_28 : decode cX4_has 28 = .ok (.getfield 19, 3) := by decide +kernel
theorem dX4_has_31 : decode cX4_has 31 = .ok (.ifCond .ne 18, 3) := by decide +kernel
theorem dX4_has_34 : decode cX4_has 34 = .ok (.aload_n 0, 1) := by decide +kernel
theorem dX4_has_35 : decode cX4_has 35 = .ok (.getfield 11, 3) := by decide +kernel
theorem dX4_has_38 : decode cX4_has 38 = .ok (.iload_n 1, 1) := by decide +kernel
theorem dX4_has_39 : decode cX4_has 39 = .ok (.aaload, 1) := by decide +kernel
theorem dX4_has_40 : decode cX4_has 40 = .ok (.iload_n 2, 1) := by decide +kernel
theorem dX4_has_41 : decode cX4_has 41 = .ok (.baload, 1) := by decide +kernel
theorem dX4_has_42 : decode cX4_has 42 = .ok (.ifCond .eq 7, 3) := by decide +kernel
theorem dX4_has_45 : decode cX4_has 45 = .ok (.iconst 1, 1) := by decide +kernel
theorem dX4_has_46 : decode cX4_has 46 = .ok (.goto 4, 3) := by decide +kernel
theorem dX4_has_49 : decode cX4_has 49 = .ok (.iconst 0, 1) := by decide +kernel
theorem dX4_has_50 : decode cX4_has 50 = .ok (.ireturn, 1) := by decide +kernel
set_option maxRecDepth 20000 in
theorem ggX4_far_X4_isSet : GoodIn wsX4_far wsX4_isSet := goodIn_r _ [6, 7, 8, 5, 9] (by decide +kernel) (by decide +kernel)
set_option maxRecDepth 20000 in
theorem gX4_far_X4_isSet : GoodIn wsX4_far (va_wsS RX4 47 yX4_isSet wsX4_isSet) := goodIn_app (goodIn_of _ (by decide +kernel)) ggX4_far_X4_isSet
set_option maxRecDepth 20000 in
theorem ggX4_far_X4_isIn : GoodIn wsX4_far wsX4_isIn := goodIn_r _ [9] (by decide +kernel) (by decide +kernel)
set_option maxRecDepth 20000 in
theorem gX4_far_X4_isIn : GoodIn wsX4_far (va_wsS RX4 23 yX4_isIn wsX4_isIn) := goodIn_app (goodIn_of _ (by decide +kernel)) ggX4_far_X4_isIn
set_option maxRecDepth 20000 in
theorem ggX4_far_X4_no : GoodIn wsX4_far wsX4_no := goodIn_r _ [13, 1, 17, 18, 19] (by decide +kernel) (by decide +kernel)
set_option maxRecDepth 20000 in
theorem gX4_far_X4_no : GoodIn wsX4_far (wsV RX4 51 RX4 yX4_no wsX4_no) := goodIn_app (goodIn_of _ (by decide +kernel)) ggX4_far_X4_no
set_option maxRecDepth 20000 in
theorem ggX4_far_X4_isAt : GoodIn wsX4_far wsX4_isAt := goodIn_r _ [16] (by decide +kernel) (by decide +kernel)
set_option maxRecDepth 20000 in
theorem gX4_far_X4_isAt : GoodIn wsX4_far (va_wsS RX4 44 yX4_isAt wsX4_isAt) := goodIn_app (goodIn_of _ (by decide +kernel)) ggX4_far_X4_isAt
theorem dX4_far_0 : decode cX4_far 0 = .ok (.aload_n 0, 1) := by decide +kernel
theorem dX4_far_1 : decode cX4_far 1 = .ok (.iconst 0, 1) := by decide +kernel
theorem dX4_far_2 : decode cX4_far 2 = .ok (.putfield 19, 3) := by decide +kernel
theorem dX4_far_5 : decode cX4_far 5 = .ok (.iload_n 1, 1) := by decide +kernel
theorem dX4_far_6 : decode cX4_far 6 = .ok (.invokestatic 47, 3) := by decide +kernel
theorem dX4_far_9 : decode cX4_far 9 = .ok (.ifCond .eq 14, 3) := by decide +kernel
theorem dX4_far_12 : decode cX4_far 12 = .ok (.iload_n 2, 1) := by decide +kernel
theorem dX4_far_13 : decode cX4_far 13 = .ok (.iconst 0, 1) := by decide +kernel
theorem dX4_far_14 : decode cX4_far 14 = .ok (.sipush 200, 3) := by decide +kernel
theorem dX4_far_17 : decode cX4_far 17 = .ok (.invokestatic 23, 3) := by decide +kernel
theorem dX4_far_20 : decode cX4_far 20 = .ok (.ifCond .ne 9, 3) := by decide +kernel
theorem dX4_far_23 : decode cX4_far 23 = .ok (.aload_n 0, 1) := by decide +kernel
theorem dX4_far_24 : decode cX4_far 24 = .ok (.iconst 1, 1) := by decide +kernel
theorem dX4_far_25 : decode cX4_far 25 = .ok (.invokevirtual 51, 3) := by decide +kernel
theorem dX4_far_28 : decode cX4_far 28 = .ok (.ireturn, 1) := by decide +kernel
theorem dX4_far_29 : decode cX4_far 29 = .ok (.iconst 0, 1) := by decide +kernel
theorem dX4_far_30 : decode cX4_far 30 = .ok (.istore_n 3, 1) := by decide +kernel
theorem dX4_far_31 : decode cX4_far 31 = .ok (.iload_n 3, 1) := by decide +kernel
theorem dX4_far_32 : decode cX4_far 32 = .ok (.sipush 201, 3) := by decide +kernel
theorem dX4_far_35 : decode cX4_far 35 = .ok (.if_icmp .ge 41, 3) := by decide +kernel
theorem dX4_far_38 : decode cX4_far 38 = .ok (.aload_n 0, 1) := by decide +kernel
theorem dX4_far_39 : decode cX4_far 39 = .ok (.getfield 11, 3) := by decide +kernel
theorem dX4_far_42 : decode cX4_far 42 = .ok (.iload_n 1, 1) := by decide +kernel
theorem dX4_far_43 : decode cX4_far 43 = .ok (.aaload, 1) := by decide +kernel
theorem dX4_far_44 : decode cX4_far 44 = .ok (.iload_n 2, 1) := by decide +kernel
theorem dX4_far_45 : decode cX4_far 45 = .ok (.iload_n 3, 1) := by decide +kernel
theorem dX4_far_46 : decode cX4_far 46 = .ok (.isub, 1) := by decide +kernel
theorem dX4_far_47 : decode cX4_far 47 = .ok (.invokestatic 44, 3) := by decide +kernel
theorem dX4_far_50 : decode cX4_far 50 = .ok (.ifCond .ne 18, 3) := by decide +kernel
theorem dX4_far_53 : decode cX4_far 53 = .ok (.aload_n 0, 1) := by decide +kernel
theorem dX4_far_54 : decode cX4_far 54 = .ok (.getfield 11, 3) := by decide +kernel
theorem dX4_far_57 : decode cX4_far 57 = .ok (.iload_n 1, 1) := by decide +kernel
theorem dX4_far_58 : decode cX4_far 58 = .ok (.aaload, 1) := by decide +kernel
theorem dX4_far_59 : decode cX4_far 59 = .ok (.iload_n 2, 1) := by decide +kernel
theorem dX4_far_60 : decode cX4_far 60 = .ok (.iload_n 3, 1) := by decide +kernel
theorem dX4_far_61 : decode cX4_far 61 = .ok (.iadd, 1) := by decide +kernel
theorem dX4_far_62 : decode cX4_far 62 = .ok (.invokestatic 44, 3) := by decide +kernel
theorem dX4_far_65 : decode cX4_far 65 = .ok (.ifCond .eq 5, 3) := by decide +kernel
theorem dX4_far_68 : decode cX4_far 68 = .ok (.iload_n 3, 1) := by decide +kernel
theorem dX4_far_69 : decode cX4_far 69 = .ok (.ireturn, 1) := by decide +kernel
theorem dX4_far_70 : decode cX4_far 70 = .ok (.iinc 3 1, 3) := by decide +kernel
theorem dX4_far_73 : decode cX4_far 73 = .ok (.goto (-42), 3) := by decide +kernel
theorem dX4_far_76 : decode cX4_far 76 = .ok (.iconst (-1), 1) := by decide +kernel
theorem dX4_far_77 : decode cX4_far 77 = .ok (.ireturn, 1) := by decide +kernel
set_option maxRecDepth 20000 in
theorem ggX4_beside_X4_isSet : GoodIn wsX4_beside wsX4_isSet := goodIn_r _ [6, 7, 8, 5, 9] (by decide +kernel) (by decide +kernel)
set_option maxRecDepth 20000 in
theorem gX4_beside_X4_isSet : GoodIn wsX4_beside (va_wsS RX4 47 yX4_isSet wsX4_isSet) := goodIn_app (goodIn_of _ (by decide +kernel)) ggX4_beside_X4_isSet
set_option maxRecDepth 20000 in
theorem ggX4_beside_X4_no : GoodIn wsX4_beside wsX4_no := goodIn_r _ [13, 1, 17, 18, 19] (by decide +kernel) (by decide +kernel)
set_option maxRecDepth 20000 in
theorem gX4_beside_X4_no : GoodIn wsX4_beside (wsV RX4 51 RX4 yX4_no wsX4_no) := goodIn_app (goodIn_of _ (by decide +kernel)) ggX4_beside_X4_no
set_option maxRecDepth 20000 in
theorem ggX4_beside_X4_count : GoodIn wsX4_beside wsX4_count := goodIn_r _ [16] (by decide +kernel) (by decide +kernel)
set_option maxRecDepth 20000 in
theorem gX4_beside_X4_count : GoodIn wsX4_beside (va_wsS RX4 62 yX4_count wsX4_count) := goodIn_app (goodIn_of _ (by decide +kernel)) ggX4_beside_X4_count
theorem dX4_beside_0 : decode cX4_beside 0 = .ok (.aload_n 0, 1) := by decide +kernel
theorem dX4_beside_1 : decode cX4_beside 1 = .ok (.iconst 0, 1) := by decide +kernel
theorem dX4_beside_2 : decode cX4_beside 2 = .ok (.putfield 19, 3) := by decide +kernel
theorem dX4_beside_5 : decode cX4_beside 5 = .ok (.iload_n 1, 1) := by decide +kernel
theorem dX4_beside_6 : decode cX4_beside 6 = .ok (.invokestatic 47, 3) := by decide +kernel
theorem dX4_beside_9 : decode cX4_beside 9 = .ok (.ifCond .eq 10, 3) := by decide +kernel
theorem dX4_beside_12 : decode cX4_beside 12 = .ok (.iload_n 2, 1) := by decide +kernel
theorem dX4_beside_13 : decode cX4_beside 13 = .ok (.invokestatic 47, 3) := by decide +kernel
theorem dX4_beside_16 : decode cX4_beside 16 = .ok (.ifCond .ne 9, 3) := by decide +kernel
theorem dX4_beside_19 : decode cX4_beside 19 = .ok (.aload_n 0, 1) := by decide +kernel
theorem dX4_beside_20 : decode cX4_beside 20 = .ok (.iconst 1, 1) := by decide +kernel
theorem dX4_beside_21 : decode cX4_beside 21 = .ok (.invokevirtual 51, 3) := by decide +kernel
theorem dX4_beside_24 : decode cX4_beside 24 = .ok (.ireturn, 1) := by decide +kernel
theorem dX4_beside_25 : decode cX4_beside 25 = .ok (.iconst 0, 1) := by decide +kernel
theorem dX4_beside_26 : decode cX4_beside 26 = .ok (.istore_n 3, 1) := by decide +kernel
theorem dX4_beside_27 : decode cX4_beside 27 = .ok (.iconst 0, 1) := by decide +kernel
theorem dX4_beside_28 : decode cX4_beside 28 = .ok (.istore 4, 2) := by decide +kernel
theorem dX4_beside_30 : decode cX4_beside 30 = .ok (.iload 4, 2) := by decide +kernel
theorem dX4_beside_32 : decode cX4_beside 32 = .ok (.sipush 201, 3) := by decide +kernel
theorem dX4_beside_35 : decode cX4_beside 35 = .ok (.if_icmp .ge 41, 3) := by decide +kernel
theorem dX4_beside_38 : decode cX4_beside 38 = .ok (.iload_n 3, 1) := by decide +kernel
theorem dX4_beside_39 : decode cX4_beside 39 = .ok (.aload_n 0, 1) := by decide +kernel
theorem dX4_beside_40 : decode cX4_beside 40 = .ok (.getfield 11, 3) := by decide +kernel
theorem dX4_beside_43 : decode cX4_beside 43 = .ok (.iload_n 1, 1) := by decide +kernel
theorem dX4_beside_44 : decode cX4_beside 44 = .ok (.aaload, 1) := by decide +kernel
theorem dX4_beside_45 : decode cX4_beside 45 = .ok (.iload 4, 2) := by decide +kernel
theorem dX4_beside_47 : decode cX4_beside 47 = .ok (.baload, 1) := by decide +kernel
theorem dX4_beside_48 : decode cX4_beside 48 = .ok (.ifCond .eq 19, 3) := by decide +kernel
theorem dX4_beside_51 : decode cX4_beside 51 = .ok (.aload_n 0, 1) := by decide +kernel
theorem dX4_beside_52 : decode cX4_beside 52 = .ok (.getfield 11, 3) := by decide +kernel
theorem dX4_beside_55 : decode cX4_beside 55 = .ok (.iload_n 2, 1) := by decide +kernel
theorem dX4_beside_56 : decode cX4_beside 56 = .ok (.aaload, 1) := by decide +kernel
theorem dX4_beside_57 : decode cX4_beside 57 = .ok (.iload 4, 2) := by decide +kernel
theorem dX4_beside_59 : decode cX4_beside 59 = .ok (.baload, 1) := by decide +kernel
theorem dX4_beside_60 : decode cX4_beside 60 = .ok (.ifCond .eq 7, 3) := by decide +kernel
theorem dX4_beside_63 : decode cX4_beside 63 = .ok (.iconst 1, 1) := by decide +kernel
theorem dX4_beside_64 : decode cX4_beside 64 = .ok (.goto 4, 3) := by decide +kernel
theorem dX4_beside_67 : decode cX4_beside 67 = .ok (.iconst 0, 1) := by decide +kernel
theorem dX4_beside_68 : decode cX4_beside 68 = .ok (.iadd, 1) := by decide +kernel
theorem dX4_beside_69 : decode cX4_beside 69 = .ok (.istore_n 3, 1) := by decide +kernel
theorem dX4_beside_70 : decode cX4_beside 70 = .ok (.iinc 4 1, 3) := by decide +kernel
theorem dX4_beside_73 : decode cX4_beside 73 = .ok (.goto (-43), 3) := by decide +kernel
theorem dX4_beside_76 : decode cX4_beside 76 = .ok (.iload_n 3, 1) := by decide +kernel
theorem dX4_beside_77 : decode cX4_beside 77 = .ok (.aload_n 0, 1) := by decide +kernel
theorem dX4_beside_78 : decode cX4_beside 78 = .ok (.getfield 11, 3) := by decide +kernel
theorem dX4_beside_81 : decode cX4_beside 81 = .ok (.iload_n 1, 1) := by decide +kernel
theorem dX4_beside_82 : decode cX4_beside 82 = .ok (.aaload, 1) := by decide +kernel
theorem dX4_beside_83 : decode cX4_beside 83 = .ok (.invokestatic 62, 3) := by decide +kernel
theorem dX4_beside_86 : decode cX4_beside 86 = .ok (.if_icmp .ne 7, 3) := by decide +kernel
theorem dX4_beside_89 : decode cX4_beside 89 = .ok (.iconst 1, 1) := by decide +kernel
theorem dX4_beside_90 : decode cX4_beside 90 = .ok (.goto 4, 3) := by decide +kernel
theorem dX4_beside_93 : decode cX4_beside 93 = .ok (.iconst 0, 1) := by decide +kernel
theorem dX4_beside_94 : decode cX4_beside 94 = .ok (.istore 4, 2) := by decide +kernel
theorem dX4_beside_96 : decode cX4_beside 96 = .ok (.iload_n 3, 1) := by decide +kernel
theorem dX4_beside_97 : decode cX4_beside 97 = .ok (.aload_n 0, 1) := by decide +kernel
theorem dX4_beside_98 : decode cX4_beside 98 = .ok (.getfield 11, 3) := by decide +kernel
theorem dX4_beside_101 : decode cX4_beside 101 = .ok (.iload_n 2, 1) := by decide +kernel
theorem dX4_beside_102 : decode cX4_beside 102 = .ok (.aaload, 1) := by decide +kernel
theorem dX4_beside_103 : decode cX4_beside 103 = .ok (.invokestatic 62, 3) := by decide +kernel
theorem dX4_beside_106 : decode cX4_beside 106 = .ok (.if_icmp .ne 7, 3) := by decide +kernel
theorem dX4_beside_109 : decode cX4_beside 109 = .ok (.iconst 1, 1) := by decide +kernel
theorem dX4_beside_110 : decode cX4_beside 110 = .ok (.goto 4, 3) := by decide +kernel
theorem dX4_beside_113 : decode cX4_beside 113 = .ok (.iconst 0, 1) := by decide +kernel
theorem dX4_beside_114 : decode cX4_beside 114 = .ok (.istore 5, 2) := by decide +kernel
theorem dX4_beside_116 : decode cX4_beside 116 = .ok (.iload 4, 2) := by decide +kernel
theorem dX4_beside_118 : decode cX4_beside 118 = .ok (.ifCond .eq 12, 3) := by decide +kernel
theorem dX4_beside_121 : decode cX4_beside 121 = .ok (.iload 5, 2) := by decide +kernel
theorem dX4_beside_123 : decode cX4_beside 123 = .ok (.ifCond .eq 7, 3) := by decide +kernel
theorem dX4_beside_126 : decode cX4_beside 126 = .ok (.iconst 0, 1) := by decide +kernel
theorem dX4_beside_127 : decode cX4_beside 127 = .ok (.goto 30, 3) := by decide +kernel
theorem dX4_beside_130 : decode cX4_beside 130 = .ok (.iload 4, 2) := by decide +kernel
theorem dX4_beside_132 : decode cX4_beside 132 = .ok (.ifCond .eq 7, 3) := by decide +kernel
theorem dX4_beside_135 : decode cX4_beside 135 = .ok (.iconst 1, 1) := by decide +kernel
theorem dX4_beside_136 : decode cX4_beside 136 = .ok (.goto 21, 3) := by decide +kernel
theorem dX4_beside_139 : decode cX4_beside 139 = .ok (.iload 5, 2) := by decide +kernel
theorem dX4_beside_141 : decode cX4_beside 141 = .ok (.ifCond .eq 7, 3) := by decide +kernel
theorem dX4_beside_144 : decode cX4_beside 144 = .ok (.iconst 2, 1) := by decide +kernel
theorem dX4_beside_145 : decode cX4_beside 145 = .ok (.goto 12, 3) := by decide +kernel
theorem dX4_beside_148 : decode cX4_beside 148 = .ok (.iload_n 3, 1) := by decide +kernel
theorem dX4_beside_149 : decode cX4_beside 149 = .ok (.ifCond .le 7, 3) := by decide +kernel
theorem dX4_beside_152 : decode cX4_beside 152 = .ok (.iconst 3, 1) := by decide +kernel
theorem dX4_beside_153 : decode cX4_beside 153 = .ok (.goto 4, 3) := by decide +kernel
theorem dX4_beside_156 : decode cX4_beside 156 = .ok (.iconst 4, 1) := by decide +kernel
theorem dX4_beside_157 : decode cX4_beside 157 = .ok (.ireturn, 1) := by decide +kernel
theorem dX4_kept_0 : decode cX4_kept 0 = .ok (.sipush (-10000), 3) := by decide +kernel
theorem dX4_kept_3 : decode cX4_kept 3 = .ok (.sipush 10000, 3) := by decide +kernel
theorem dX4_kept_6 : decode cX4_kept 6 = .ok (.iload_n 0, 1) := by decide +kernel
theorem dX4_kept_7 : decode cX4_kept 7 = .ok (.invokestatic 99, 3) := by decide +kernel
theorem dX4_kept_10 : decode cX4_kept 10 = .ok (.invokestatic 35, 3) := by decide +kernel
theorem dX4_kept_13 : decode cX4_kept 13 = .ok (.ireturn, 1) := by decide +kernel
theorem dX4_steps_0 : decode cX4_steps 0 = .ok (.iconst 1, 1) := by decide +kernel
theorem dX4_steps_1 : decode cX4_steps 1 = .ok (.istore_n 1, 1) := by decide +kernel
theorem dX4_steps_2 : decode cX4_steps 2 = .ok (.iconst 1, 1) := by decide +kernel
theorem dX4_steps_3 : decode cX4_steps 3 = .ok (.istore_n 2, 1) := by decide +kernel
theorem dX4_steps_4 : decode cX4_steps 4 = .ok (.iload_n 2, 1) := by decide +kernel
theorem dX4_steps_5 : decode cX4_steps 5 = .ok (.sipush 201, 3) := by decide +kernel
theorem dX4_steps_8 : decode cX4_steps 8 = .ok (.if_icmp .ge 28, 3) := by decide +kernel
theorem dX4_steps_11 : decode cX4_steps 11 = .ok (.iload_n 1, 1) := by decide +kernel
theorem dX4_steps_12 : decode cX4_steps 12 = .ok (.aload_n 0, 1) := by decide +kernel
theorem dX4_steps_13 : decode cX4_steps 13 = .ok (.iload_n 2, 1) := by decide +kernel
theorem dX4_steps_14 : decode cX4_steps 14 = .ok (.iaload, 1) := by decide +kernel
theorem dX4_steps_15 : decode cX4_steps 15 = .ok (.aload_n 0, 1) := by decide +kernel
theorem dX4_steps_16 : decode cX4_steps 16 = .ok (.iload_n 2, 1) := by decide +kernel
theorem dX4_steps_17 : decode cX4_steps 17 = .ok (.iconst 1, 1) := by decide +kernel
theorem dX4_steps_18 : decode cX4_steps 18 = .ok (.isub, 1) := by decide +kernel
theorem dX4_steps_19 : decode cX4_steps 19 = .ok (.iaload, 1) := by decide +kernel
theorem dX4_steps_20 : decode cX4_steps 20 = .ok (.if_icmp .ne 7, 3) := by decide +kernel
theorem dX4_steps_23 : decode cX4_steps 23 = .ok (.iconst 0, 1) := by decide +kernel
theorem dX4_steps_24 : decode cX4_steps 24 = .ok (.goto 4, 3) := by decide +kernel
theorem dX4_steps_27 : decode cX4_steps 27 = .ok (.iconst 1, 1) := by decide +kernel
theorem dX4_steps_28 : decode cX4_steps 28 = .ok (.iadd, 1) := by decide +kernel
theorem dX4_steps_29 : decode cX4_steps 29 = .ok (.istore_n 1, 1) := by decide +kernel
theorem dX4_steps_30 : decode cX4_steps 30 = .ok (.iinc 2 1, 3) := by decide +kernel
theorem dX4_steps_33 : decode cX4_steps 33 = .ok (.goto (-29), 3) := by decide +kernel
theorem dX4_steps_36 : decode cX4_steps 36 = .ok (.iload_n 1, 1) := by decide +kernel
theorem dX4_steps_37 : decode cX4_steps 37 = .ok (.ireturn, 1) := by decide +kernel
set_option maxRecDepth 20000 in
theorem ggX4_raise_X4_isFunction : GoodIn wsX4_raise wsX4_isFunction := goodIn_r _ [6, 7, 8, 5, 9] (by decide +kernel) (by decide +kernel)
set_option maxRecDepth 20000 in
theorem gX4_raise_X4_isFunction : GoodIn wsX4_raise (va_wsS RX4 102 yX4_isFunction wsX4_isFunction) := goodIn_app (goodIn_of _ (by decide +kernel)) ggX4_raise_X4_isFunction
set_option maxRecDepth 20000 in
theorem ggX4_raise_X4_no : GoodIn wsX4_raise wsX4_no := goodIn_r _ [13, 1, 33, 34, 35] (by decide +kernel) (by decide +kernel)
set_option maxRecDepth 20000 in
theorem gX4_raise_X4_no : GoodIn wsX4_raise (wsV RX4 51 RX4 yX4_no wsX4_no) := goodIn_app (goodIn_of _ (by decide +kernel)) ggX4_raise_X4_no
set_option maxRecDepth 20000 in
theorem ggX4_raise_X4_isSpan : GoodIn wsX4_raise wsX4_isSpan := goodIn_r _ [16, 7, 8, 5, 9] (by decide +kernel) (by decide +kernel)
set_option maxRecDepth 20000 in
theorem gX4_raise_X4_isSpan : GoodIn wsX4_raise (va_wsS RX4 55 yX4_isSpan wsX4_isSpan) := goodIn_app (goodIn_of _ (by decide +kernel)) ggX4_raise_X4_isSpan
set_option maxRecDepth 20000 in
theorem ggX4_raise_X4_isIn : GoodIn wsX4_raise wsX4_isIn := goodIn_r _ [9] (by decide +kernel) (by decide +kernel)
set_option maxRecDepth 20000 in
theorem gX4_raise_X4_isIn : GoodIn wsX4_raise (va_wsS RX4 23 yX4_isIn wsX4_isIn) := goodIn_app (goodIn_of _ (by decide +kernel)) ggX4_raise_X4_isIn
set_option maxRecDepth 20000 in
theorem ggX4_raise_X4_isWithin : GoodIn wsX4_raise wsX4_isWithin := goodIn_r _ [19, 7, 8, 5, 9] (by decide +kernel) (by decide +kernel)
set_option maxRecDepth 20000 in
theorem gX4_raise_X4_isWithin : GoodIn wsX4_raise (va_wsS RX4 58 yX4_isWithin wsX4_isWithin) := goodIn_app (goodIn_of _ (by decide +kernel)) ggX4_raise_X4_isWithin
set_option maxRecDepth 20000 in
theorem ggX4_raise_X4_kept : GoodIn wsX4_raise wsX4_kept := goodIn_r _ [22, 23, 24, 25, 26, 27, 28, 29] (by decide +kernel) (by decide +kernel)
set_option maxRecDepth 20000 in
theorem gX4_raise_X4_kept : GoodIn wsX4_raise (va_wsS RX4 105 yX4_kept wsX4_kept) := goodIn_app (goodIn_of _ (by decide +kernel)) ggX4_raise_X4_kept
set_option maxRecDepth 20000 in
theorem ggX4_raise_X4_steps : GoodIn wsX4_raise wsX4_steps := goodIn_r _ [32] (by decide +kernel) (by decide +kernel)
set_option maxRecDepth 20000 in
theorem gX4_raise_X4_steps : GoodIn wsX4_raise (va_wsS RX4 108 yX4_steps wsX4_steps) := goodIn_app (goodIn_of _ (by decide +kernel)) ggX4_raise_X4_steps
theorem dX4_raise_0 : decode cX4_raise 0 = .ok (.aload_n 0, 1) := by decide +kernel
theorem dX4_raise_1 : decode cX4_raise 1 = .ok (.iconst 0, 1) := by decide +kernel
theorem dX4_raise_2 : decode cX4_raise 2 = .ok (.putfield 19, 3) := by decide +kernel
theorem dX4_raise_5 : decode cX4_raise 5 = .ok (.iload_n 1, 1) := by decide +kernel
theorem dX4_raise_6 : decode cX4_raise 6 = .ok (.invokestatic 102, 3) := by decide +kernel
theorem dX4_raise_9 : decode cX4_raise 9 = .ok (.ifCond .ne 9, 3) := by decide +kernel
theorem dX4_raise_12 : decode cX4_raise 12 = .ok (.aload_n 0, 1) := by decide +kernel
theorem dX4_raise_13 : decode cX4_raise 13 = .ok (.iconst 1, 1) := by decide +kernel
theorem dX4_raise_14 : decode cX4_raise 14 = .ok (.invokevirtual 51, 3) := by decide +kernel
theorem dX4_raise_17 : decode cX4_raise 17 = .ok (.ireturn, 1) := by decide +kernel
theorem dX4_raise_18 : decode cX4_raise 18 = .ok (.iload_n 2, 1) := by decide +kernel
theorem dX4_raise_19 : decode cX4_raise 19 = .ok (.iload_n 3, 1) := by decide +kernel
theorem dX4_raise_20 : decode cX4_raise 20 = .ok (.iload 4, 2) := by decide +kernel
theorem dX4_raise_22 : decode cX4_raise 22 = .ok (.invokestatic 55, 3) := by decide +kernel
theorem dX4_raise_25 : decode cX4_raise 25 = .ok (.ifCond .eq 17, 3) := by decide +kernel
theorem dX4_raise_28 : decode cX4_raise 28 = .ok (.iload 5, 2) := by decide +kernel
theorem dX4_raise_30 : decode cX4_raise 30 = .ok (.sipush (-1000), 3) := by decide +kernel
theorem dX4_raise_33 : decode cX4_raise 33 = .ok (.sipush 1000, 3) := by decide +kernel
theorem dX4_raise_36 : decode cX4_raise 36 = .ok (.invokestatic 23, 3) := by decide +kernel
theorem dX4_raise_39 : decode cX4_raise 39 = .ok (.ifCond .ne 9, 3) := by decide +kernel
theorem dX4_raise_42 : decode cX4_raise 42 = .ok (.aload_n 0, 1) := by decide +kernel
theorem dX4_raise_43 : decode cX4_raise 43 = .ok (.iconst 2, 1) := by decide +kernel
theorem dX4_raise_44 : decode cX4_raise 44 = .ok (.invokevirtual 51, 3) := by decide +kernel
theorem dX4_raise_47 : decode cX4_raise 47 = .ok (.ireturn, 1) := by decide +kernel
theorem dX4_raise_48 : decode cX4_raise 48 = .ok (.aload_n 0, 1) := by decide +kernel
theorem dX4_raise_49 : decode cX4_raise 49 = .ok (.getfield 16, 3) := by decide +kernel
theorem dX4_raise_52 : decode cX4_raise 52 = .ok (.iload_n 1, 1) := by decide +kernel
theorem dX4_raise_53 : decode cX4_raise 53 = .ok (.aaload, 1) := by decide +kernel
theorem dX4_raise_54 : decode cX4_raise 54 = .ok (.astore 6, 2) := by decide +kernel
theorem dX4_raise_56 : decode cX4_raise 56 = .ok (.iconst 0, 1) := by decide +kernel
theorem dX4_raise_57 : decode cX4_raise 57 = .ok (.istore 7, 2) := by decide +kernel
theorem dX4_raise_59 : decode cX4_raise 59 = .ok (.iload 7, 2) := by decide +kernel
theorem dX4_raise_61 : decode cX4_raise 61 = .ok (.sipush 201, 3) := by decide +kernel
theorem dX4_raise_64 : decode cX4_raise 64 = .ok (.if_icmp .ge 37, 3) := by decide +kernel
theorem dX4_raise_67 : decode cX4_raise 67 = .ok (.iload 7, 2) := by decide +kernel
theorem dX4_raise_69 : decode cX4_raise 69 = .ok (.iload_n 2, 1) := by decide +kernel
theorem dX4_raise_70 : decode cX4_raise 70 = .ok (.iload_n 3, 1) := by decide +kernel
theorem dX4_raise_71 : decode cX4_raise 71 = .ok (.iload 4, 2) := by decide +kernel
theorem dX4_raise_73 : decode cX4_raise 73 = .ok (.invokestatic 58, 3) := by decide +kernel
theorem dX4_raise_76 : decode cX4_raise 76 = .ok (.ifCond .eq 19, 3) := by decide +kernel
theorem dX4_raise_79 : decode cX4_raise 79 = .ok (.aload 6, 2) := by decide +kernel
theorem dX4_raise_81 : decode cX4_raise 81 = .ok (.iload 7, 2) := by decide +kernel
theorem dX4_raise_83 : decode cX4_raise 83 = .ok (.aload 6, 2) := by decide +kernel
theorem dX4_raise_85 : decode cX4_raise 85 = .ok (.iload 7, 2) := by decide +kernel
theorem dX4_raise_87 : decode cX4_raise 87 = .ok (.iaload, 1) := by decide +kernel
theorem dX4_raise_88 : decode cX4_raise 88 = .ok (.iload 5, 2) := by decide +kernel
theorem dX4_raise_90 : decode cX4_raise 90 = .ok (.iadd, 1) := by decide +kernel
theorem dX4_raise_91 : decode cX4_raise 91 = .ok (.invokestatic 105, 3) := by decide +kernel
theorem dX4_raise_94 : decode cX4_raise 94 = .ok (.iastore, 1) := by decide +kernel
theorem dX4_raise_95 : decode cX4_raise 95 = .ok (.iinc 7 1, 3) := by decide +kernel
theorem dX4_raise_98 : decode cX4_raise 98 = .ok (.goto (-39), 3) := by decide +kernel
theorem dX4_raise_101 : decode cX4_raise 101 = .ok (.aload 6, 2) := by decide +kernel
theorem dX4_raise_103 : decode cX4_raise 103 = .ok (.invokestatic 108, 3) := by decide +kernel
theorem dX4_raise_106 : decode cX4_raise 106 = .ok (.ireturn, 1) := by decide +kernel
set_option maxRecDepth 20000 in
theorem ggX4_set_X4_isFunction : GoodIn wsX4_set wsX4_isFunction := goodIn_r _ [7, 8, 9, 6, 10] (by decide +kernel) (by decide +kernel)
set_option maxRecDepth 20000 in
theorem gX4_set_X4_isFunction : GoodIn wsX4_set (va_wsS RX4 102 yX4_isFunction wsX4_isFunction) := goodIn_app (goodIn_of _ (by decide +kernel)) ggX4_set_X4_isFunction
set_option maxRecDepth 20000 in
theorem ggX4_set_X4_isSet : GoodIn wsX4_set wsX4_isSet := goodIn_r _ [13, 8, 9, 6, 10] (by decide +kernel) (by decide +kernel)
set_option maxRecDepth 20000 in
theorem gX4_set_X4_isSet : GoodIn wsX4_set (va_wsS RX4 47 yX4_isSet wsX4_isSet) := goodIn_app (goodIn_of _ (by decide +kernel)) ggX4_set_X4_isSet
set_option maxRecDepth 20000 in
theorem ggX4_set_X4_no : GoodIn wsX4_set wsX4_no := goodIn_r _ [17, 1, 21, 22, 23] (by decide +kernel) (by decide +kernel)
set_option maxRecDepth 20000 in
theorem gX4_set_X4_no : GoodIn wsX4_set (wsV RX4 51 RX4 yX4_no wsX4_no) := goodIn_app (goodIn_of _ (by decide +kernel)) ggX4_set_X4_no
set_option maxRecDepth 20000 in
theorem ggX4_set_X4_isIn : GoodIn wsX4_set wsX4_isIn := goodIn_r _ [10] (by decide +kernel) (by decide +kernel)
set_option maxRecDepth 20000 in
theorem gX4_set_X4_isIn : GoodIn wsX4_set (va_wsS RX4 23 yX4_isIn wsX4_isIn) := goodIn_app (goodIn_of _ (by decide +kernel)) ggX4_set_X4_isIn
set_option maxRecDepth 20000 in
theorem ggX4_set_X4_steps : GoodIn wsX4_set wsX4_steps := goodIn_r _ [20] (by decide +kernel) (by decide +kernel)
set_option maxRecDepth 20000 in
theorem gX4_set_X4_steps : GoodIn wsX4_set (va_wsS RX4 108 yX4_steps wsX4_steps) := goodIn_app (goodIn_of _ (by decide +kernel)) ggX4_set_X4_steps
theorem dX4_set_0 : decode cX4_set 0 = .ok (.aload_n 0, 1) := by decide +kernel
theorem dX4_set_1 : decode cX4_set 1 = .ok (.iconst 0, 1) := by decide +kernel
theorem dX4_set_2 : decode cX4_set 2 = .ok (.putfield 19, 3) := by decide +kernel
theorem dX4_set_5 : decode cX4_set 5 = .ok (.iload_n 1, 1) := by decide +kernel
theorem dX4_set_6 : decode cX4_set 6 = .ok (.invokestatic 102, 3) := by decide +kernel
theorem dX4_set_9 : decode cX4_set 9 = .ok (.ifCond .eq 10, 3) := by decide +kernel
theorem dX4_set_12 : decode cX4_set 12 = .ok (.iload_n 2, 1) := by decide +kernel
theorem dX4_set_13 : decode cX4_set 13 = .ok (.invokestatic 47, 3) := by decide +kernel
theorem dX4_set_16 : decode cX4_set 16 = .ok (.ifCond .ne 9, 3) := by decide +kernel
theorem dX4_set_19 : decode cX4_set 19 = .ok (.aload_n 0, 1) := by decide +kernel
theorem dX4_set_20 : decode cX4_set 20 = .ok (.iconst 1, 1) := by decide +kernel
theorem dX4_set_21 : decode cX4_set 21 = .ok (.invokevirtual 51, 3) := by decide +kernel
theorem dX4_set_24 : decode cX4_set 24 = .ok (.ireturn, 1) := by decide +kernel
theorem dX4_set_25 : decode cX4_set 25 = .ok (.iload_n 3, 1) := by decide +kernel
theorem dX4_set_26 : decode cX4_set 26 = .ok (.sipush (-10000), 3) := by decide +kernel
theorem dX4_set_29 : decode cX4_set 29 = .ok (.sipush 10000, 3) := by decide +kernel
theorem dX4_set_32 : decode cX4_set 32 = .ok (.invokestatic 23, 3) := by decide +kernel
theorem dX4_set_35 : decode cX4_set 35 = .ok (.ifCond .ne 9, 3) := by decide +kernel
theorem dX4_set_38 : decode cX4_set 38 = .ok (.aload_n 0, 1) := by decide +kernel
theorem dX4_set_39 : decode cX4_set 39 = .ok (.iconst 2, 1) := by decide +kernel
theorem dX4_set_40 : decode cX4_set 40 = .ok (.invokevirtual 51, 3) := by decide +kernel
theorem dX4_set_43 : decode cX4_set 43 = .ok (.ireturn, 1) := by decide +kernel
theorem dX4_set_44 : decode cX4_set 44 = .ok (.iconst 0, 1) := by decide +kernel
theorem dX4_set_45 : decode cX4_set 45 = .ok (.istore 4, 2) := by decide +kernel
theorem dX4_set_47 : decode cX4_set 47 = .ok (.iload 4, 2) := by decide +kernel
theorem dX4_set_49 : decode cX4_set 49 = .ok (.sipush 201, 3) := by decide +kernel
theorem dX4_set_52 : decode cX4_set 52 = .ok (.if_icmp .ge 31, 3) := by decide +kernel
theorem dX4_set_55 : decode cX4_set 55 = .ok (.aload_n 0, 1) := by decide +kernel
theorem dX4_set_56 : decode cX4_set 56 = .ok (.getfield 11, 3) := by decide +kernel
theorem dX4_set_59 : decode cX4_set 59 = .ok (.iload_n 2, 1) := by decide +kernel
theorem dX4_set_60 : decode cX4_set 60 = .ok (.aaload, 1) := by decide +kernel
theorem dX4_set_61 : decode cX4_set 61 = .ok (.iload 4, 2) := by decide +kernel
theorem dX4_set_63 : decode cX4_set 63 = .ok (.baload, 1) := by decide +kernel
theorem dX4_set_64 : decode cX4_set 64 = .ok (.ifCond .eq 13, 3) := by decide +kernel
theorem dX4_set_67 : decode cX4_set 67 = .ok (.aload_n 0, 1) := by decide +kernel
theorem dX4_set_68 : decode cX4_set 68 = .ok (.getfield 16, 3) := by decide +kernel
theorem dX4_set_71 : decode cX4_set 71 = .ok (.iload_n 1, 1) := by decide +kernel
theorem dX4_set_72 : decode cX4_set 72 = .ok (.aaload, 1) := by decide +kernel
theorem dX4_set_73 : decode cX4_set 73 = .ok (.iload 4, 2) := by decide +kernel
theorem dX4_set_75 : decode cX4_set 75 = .ok (.iload_n 3, 1) := by decide +kernel
theorem dX4_set_76 : decode cX4_set 76 = .ok (.iastore, 1) := by decide +kernel
theorem dX4_set_77 : decode cX4_set 77 = .ok (.iinc 4 1, 3) := by decide +kernel
theorem dX4_set_80 : decode cX4_set 80 = .ok (.goto (-33), 3) := by decide +kernel
theorem dX4_set_83 : decode cX4_set 83 = .ok (.aload_n 0, 1) := by decide +kernel
theorem dX4_set_84 : decode cX4_set 84 = .ok (.getfield 16, 3) := by decide +kernel
theorem dX4_set_87 : decode cX4_set 87 = .ok (.iload_n 1, 1) := by decide +kernel
theorem dX4_set_88 : decode cX4_set 88 = .ok (.aaload, 1) := by decide +kernel
theorem dX4_set_89 : decode cX4_set 89 = .ok (.invokestatic 108, 3) := by decide +kernel
theorem dX4_set_92 : decode cX4_set 92 = .ok (.ireturn, 1) := by decide +kernel
theorem dX4_mixed_0 : decode cX4_mixed 0 = .ok (.iload_n 2, 1) := by decide +kernel
theorem dX4_mixed_1 : decode cX4_mixed 1 = .ok (.tableswitch 51 0 3 #[31, 35, 41, 47], 31) := by decide +kernel
theorem dX4_mixed_32 : decode cX4_mixed 32 = .ok (.iload_n 0, 1) := by decide +kernel
theorem dX4_mixed_33 : decode cX4_mixed 33 = .ok (.iload_n 1, 1) := by decide +kernel
theorem dX4_mixed_34 : decode cX4_mixed 34 = .ok (.iadd, 1) := by decide +kernel
theorem dX4_mixed_35 : decode cX4_mixed 35 = .ok (.ireturn, 1) := by decide +kernel
theorem dX4_mixed_36 : decode cX4_mixed 36 = .ok (.iload_n 0, 1) := by decide +kernel
theorem dX4_mixed_37 : decode cX4_mixed 37 = .ok (.iload_n 1, 1) := by decide +kernel
theorem dX4_mixed_38 : decode cX4_mixed 38 = .ok (.invokestatic 99, 3) := by decide +kernel
theorem dX4_mixed_41 : decode cX4_mixed 41 = .ok (.ireturn, 1) := by decide +kernel
theorem dX4_mixed_42 : decode cX4_mixed 42 = .ok (.iload_n 0, 1) := by decide +kernel
theorem dX4_mixed_43 : decode cX4_mixed 43 = .ok (.iload_n 1, 1) := by decide +kernel
theorem dX4_mixed_44 : decode cX4_mixed 44 = .ok (.invokestatic 35, 3) := by decide +kernel
theorem dX4_mixed_47 : decode cX4_mixed 47 = .ok (.ireturn, 1) := by decide +kernel
theorem dX4_mixed_48 : decode cX4_mixed 48 = .ok (.iload_n 0, 1) := by decide +kernel
theorem dX4_mixed_49 : decode cX4_mixed 49 = .ok (.iload_n 1, 1) := by decide +kernel
theorem dX4_mixed_50 : decode cX4_mixed 50 = .ok (.isub, 1) := by decide +kernel
theorem dX4_mixed_51 : decode cX4_mixed 51 = .ok (.ireturn, 1) := by decide +kernel
theorem dX4_mixed_52 : decode cX4_mixed 52 = .ok (.iload_n 0, 1) := by decide +kernel
theorem dX4_mixed_53 : decode cX4_mixed 53 = .ok (.iload_n 1, 1) := by decide +kernel
theorem dX4_mixed_54 : decode cX4_mixed 54 = .ok (.imul, 1) := by decide +kernel
theorem dX4_mixed_55 : decode cX4_mixed 55 = .ok (.bipush 100, 2) := by decide +kernel
theorem dX4_mixed_57 : decode cX4_mixed 57 = .ok (.idiv, 1) := by decide +kernel
theorem dX4_mixed_58 : decode cX4_mixed 58 = .ok (.ireturn, 1) := by decide +kernel
set_option maxRecDepth 20000 in
theorem ggX4_mix_X4_isFunction : GoodIn wsX4_mix wsX4_isFunction := goodIn_r _ [7, 8, 9, 6, 10] (by decide +kernel) (by decide +kernel)
set_option maxRecDepth 20000 in
theorem gX4_mix_X4_isFunction : GoodIn wsX4_mix (va_wsS RX4 102 yX4_isFunction wsX4_isFunction) := goodIn_app (goodIn_of _ (by decide +kernel)) ggX4_mix_X4_isFunction
set_option maxRecDepth 20000 in
theorem ggX4_mix_X4_no : GoodIn wsX4_mix wsX4_no := goodIn_r _ [14, 1, 31, 32, 33] (by decide +kernel) (by decide +kernel)
set_option maxRecDepth 20000 in
theorem gX4_mix_X4_no : GoodIn wsX4_mix (wsV RX4 51 RX4 yX4_no wsX4_no) := goodIn_app (goodIn_of _ (by decide +kernel)) ggX4_mix_X4_no
set_option maxRecDepth 20000 in
theorem ggX4_mix_X4_isIn : GoodIn wsX4_mix wsX4_isIn := goodIn_r _ [10] (by decide +kernel) (by decide +kernel)
set_option maxRecDepth 20000 in
theorem gX4_mix_X4_isIn : GoodIn wsX4_mix (va_wsS RX4 23 yX4_isIn wsX4_isIn) := goodIn_app (goodIn_of _ (by decide +kernel)) ggX4_mix_X4_isIn
set_option maxRecDepth 20000 in
theorem ggX4_mix_X4_mixed : GoodIn wsX4_mix wsX4_mixed := goodIn_r _ [17, 18, 19, 20, 21, 22, 23, 24] (by decide +kernel) (by decide +kernel)
set_option maxRecDepth 20000 in
theorem gX4_mix_X4_mixed : GoodIn wsX4_mix (va_wsS RX4 112 yX4_mixed wsX4_mixed) := goodIn_app (goodIn_of _ (by decide +kernel)) ggX4_mix_X4_mixed
set_option maxRecDepth 20000 in
theorem ggX4_mix_X4_kept : GoodIn wsX4_mix wsX4_kept := goodIn_r _ [27, 18, 19, 20, 21, 22, 23, 24] (by decide +kernel) (by decide +kernel)
set_option maxRecDepth 20000 in
theorem gX4_mix_X4_kept : GoodIn wsX4_mix (va_wsS RX4 105 yX4_kept wsX4_kept) := goodIn_app (goodIn_of _ (by decide +kernel)) ggX4_mix_X4_kept
set_option maxRecDepth 20000 in
theorem ggX4_mix_X4_steps : GoodIn wsX4_mix wsX4_steps := goodIn_r _ [30] (by decide +kernel) (by decide +kernel)
set_option maxRecDepth 20000 in
theorem gX4_mix_X4_steps : GoodIn wsX4_mix (va_wsS RX4 108 yX4_steps wsX4_steps) := goodIn_app (goodIn_of _ (by decide +kernel)) ggX4_mix_X4_steps
theorem dX4_mix_0 : decode cX4_mix 0 = .ok (.aload_n 0, 1) := by decide +kernel
theorem dX4_mix_1 : decode cX4_mix 1 = .ok (.iconst 0, 1) := by decide +kernel
theorem dX4_mix_2 : decode cX4_mix 2 = .ok (.putfield 19, 3) := by decide +kernel
theorem dX4_mix_5 : decode cX4_mix 5 = .ok (.iload_n 1, 1) := by decide +kernel
theorem dX4_mix_6 : decode cX4_mix 6 = .ok (.invokestatic 102, 3) := by decide +kernel
theorem dX4_mix_9 : decode cX4_mix 9 = .ok (.ifCond .eq 17, 3) := by decide +kernel
theorem dX4_mix_12 : decode cX4_mix 12 = .ok (.iload_n 2, 1) := by decide +kernel
theorem dX4_mix_13 : decode cX4_mix 13 = .ok (.invokestatic 102, 3) := by decide +kernel
theorem dX4_mix_16 : decode cX4_mix 16 = .ok (.ifCond .eq 10, 3) := by decide +kernel
theorem dX4_mix_19 : decode cX4_mix 19 = .ok (.iload_n 3, 1) := by decide +kernel
theorem dX4_mix_20 : decode cX4_mix 20 = .ok (.invokestatic 102, 3) := by decide +kernel
theorem dX4_mix_23 : decode cX4_mix 23 = .ok (.ifCond .ne 9, 3) := by decide +kernel
theorem dX4_mix_26 : decode cX4_mix 26 = .ok (.aload_n 0, 1) := by decide +kernel
theorem dX4_mix_27 : decode cX4_mix 27 = .ok (.iconst 1, 1) := by decide +kernel
theorem dX4_mix_28 : decode cX4_mix 28 = .ok (.invokevirtual 51, 3) := by decide +kernel
theorem dX4_mix_31 : decode cX4_mix 31 = .ok (.ireturn, 1) := by decide +kernel
theorem dX4_mix_32 : decode cX4_mix 32 = .ok (.iload 4, 2) := by decide +kernel
theorem dX4_mix_34 : decode cX4_mix 34 = .ok (.iconst 0, 1) := by decide +kernel
theorem dX4_mix_35 : decode cX4_mix 35 = .ok (.iconst 4, 1) := by decide +kernel
theorem dX4_mix_36 : decode cX4_mix 36 = .ok (.invokestatic 23, 3) := by decide +kernel
theorem dX4_mix_39 : decode cX4_mix 39 = .ok (.ifCond .ne 9, 3) := by decide +kernel
theorem dX4_mix_42 : decode cX4_mix 42 = .ok (.aload_n 0, 1) := by decide +kernel
theorem dX4_mix_43 : decode cX4_mix 43 = .ok (.iconst 2, 1) := by decide +kernel
theorem dX4_mix_44 : decode cX4_mix 44 = .ok (.invokevirtual 51, 3) := by decide +kernel
theorem dX4_mix_47 : decode cX4_mix 47 = .ok (.ireturn, 1) := by decide +kernel
theorem dX4_mix_48 : decode cX4_mix 48 = .ok (.sipush 201, 3) := by decide +kernel
theorem dX4_mix_51 : decode cX4_mix 51 = .ok (.newarray .int, 2) := by decide +kernel
theorem dX4_mix_53 : decode cX4_mix 53 = .ok (.astore 5, 2) := by decide +kernel
theorem dX4_mix_55 : decode cX4_mix 55 = .ok (.iconst 0, 1) := by decide +kernel
theorem dX4_mix_56 : decode cX4_mix 56 = .ok (.istore 6, 2) := by decide +kernel
theorem dX4_mix_58 : decode cX4_mix 58 = .ok (.iload 6, 2) := by decide +kernel
theorem dX4_mix_60 : decode cX4_mix 60 = .ok (.sipush 201, 3) := by decide +kernel
theorem dX4_mix_63 : decode cX4_mix 63 = .ok (.if_icmp .ge 40, 3) := by decide +kernel
theorem dX4_mix_66 : decode cX4_mix 66 = .ok (.aload 5, 2) := by decide +kernel
theorem dX4_mix_68 : decode cX4_mix 68 = .ok (.iload 6, 2) := by decide +kernel
theorem dX4_mix_70 : decode cX4_mix 70 = .ok (.aload_n 0, 1) := by decide +kernel
theorem dX4_mix_71 : decode cX4_mix 71 = .ok (.getfield 16, 3) := by decide +kernel
theorem dX4_mix_74 : decode cX4_mix 74 = .ok (.iload_n 2, 1) := by decide +kernel
theorem dX4_mix_75 : decode cX4_mix 75 = .ok (.aaload, 1) := by decide +kernel
theorem dX4_mix_76 : decode cX4_mix 76 = .ok (.iload 6, 2) := by decide +kernel
theorem dX4_mix_78 : decode cX4_mix 78 = .ok (.iaload, 1) := by decide +kernel
theorem dX4_mix_79 : decode cX4_mix 79 = .ok (.aload_n 0, 1) := by decide +kernel
theorem dX4_mix_80 : decode cX4_mix 80 = .ok (.getfield 16, 3) := by decide +kernel
theorem dX4_mix_83 : decode cX4_mix 83 = .ok (.iload_n 3, 1) := by decide +kernel
theorem dX4_mix_84 : decode cX4_mix 84 = .ok (.aaload, 1) := by decide +kernel
theorem dX4_mix_85 : decode cX4_mix 85 = .ok (.iload 6, 2) := by decide +kernel
theorem dX4_mix_87 : decode cX4_mix 87 = .ok (.iaload, 1) := by decide +kernel
theorem dX4_mix_88 : decode cX4_mix 88 = .ok (.iload 4, 2) := by decide +kernel
theorem dX4_mix_90 : decode cX4_mix 90 = .ok (.invokestatic 112, 3) := by decide +kernel
theorem dX4_mix_93 : decode cX4_mix 93 = .ok (.invokestatic 105, 3) := by decide +kernel
theorem dX4_mix_96 : decode cX4_mix 96 = .ok (.iastore, 1) := by decide +kernel
theorem dX4_mix_97 : decode cX4_mix 97 = .ok (.iinc 6 1, 3) := by decide +kernel
theorem dX4_mix_100 : decode cX4_mix 100 = .ok (.goto (-42), 3) := by decide +kernel
theorem dX4_mix_103 : decode cX4_mix 103 = .ok (.aload_n 0, 1) := by decide +kernel
theorem dX4_mix_104 : decode cX4_mix 104 = .ok (.getfield 16, 3) := by decide +kernel
theorem dX4_mix_107 : decode cX4_mix 107 = .ok (.iload_n 1, 1) := by decide +kernel
theorem dX4_mix_108 : decode cX4_mix 108 = .ok (.aload 5, 2) := by decide +kernel
theorem dX4_mix_110 : decode cX4_mix 110 = .ok (.aastore, 1) := by decide +kernel
theorem dX4_mix_111 : decode cX4_mix 111 = .ok (.aload 5, 2) := by decide +kernel
theorem dX4_mix_113 : decode cX4_mix 113 = .ok (.invokestatic 108, 3) := by decide +kernel
theorem dX4_mix_116 : decode cX4_mix 116 = .ok (.ireturn, 1) := by decide +kernel
theorem dX4_most_0 : decode cX4_most 0 = .ok (.aload_n 0, 1) := by decide +kernel
theorem dX4_most_1 : decode cX4_most 1 = .ok (.iconst 0, 1) := by decide +kernel
theorem dX4_most_2 : decode cX4_most 2 = .ok (.iload_n 1, 1) := by decide +kernel
theorem dX4_most_3 : decode cX4_most 3 = .ok (.invokestatic 35, 3) := by decide +kernel
theorem dX4_most_6 : decode cX4_most 6 = .ok (.iaload, 1) := by decide +kernel
theorem dX4_most_7 : decode cX4_most 7 = .ok (.istore_n 3, 1) := by decide +kernel
theorem dX4_most_8 : decode cX4_most 8 = .ok (.iconst 0, 1) := by decide +kernel
theorem dX4_most_9 : decode cX4_most 9 = .ok (.iload_n 1, 1) := by decide +kernel
theorem dX4_most_10 : decode cX4_most 10 = .ok (.invokestatic 35, 3) := by decide +kernel
theorem dX4_most_13 : decode cX4_most 13 = .ok (.istore 4, 2) := by decide +kernel
theorem dX4_most_15 : decode cX4_most 15 = .ok (.iload 4, 2) := by decide +kernel
theorem dX4_most_17 : decode cX4_most 17 = .ok (.iload_n 2, 1) := by decide +kernel
theorem dX4_most_18 : decode cX4_most 18 = .ok (.if_icmp .gt 26, 3) := by decide +kernel
theorem dX4_most_21 : decode cX4_most 21 = .ok (.iload 4, 2) := by decide +kernel
theorem dX4_most_23 : decode cX4_most 23 = .ok (.sipush 201, 3) := by decide +kernel
theorem dX4_most_26 : decode cX4_most 26 = .ok (.if_icmp .ge 18, 3) := by decide +kernel
theorem dX4_most_29 : decode cX4_most 29 = .ok (.iload_n 3, 1) := by decide +kernel
theorem dX4_most_30 : decode cX4_most 30 = .ok (.aload_n 0, 1) := by decide +kernel
theorem dX4_most_31 : decode cX4_most 31 = .ok (.iload 4, 2) := by decide +kernel
theorem dX4_most_33 : decode cX4_most 33 = .ok (.iaload, 1) := by decide +kernel
theorem dX4_most_34 : decode cX4_most 34 = .ok (.invokestatic 35, 3) := by decide +kernel
theorem dX4_most_37 : decode cX4_most 37 = .ok (.istore_n 3, 1) := by decide +kernel
theorem dX4_most_38 : decode cX4_most 38 = .ok (.iinc 4 1, 3) := by decide +kernel
theorem dX4_most_41 : decode cX4_most 41 = .ok (.goto (-26), 3) := by decide +kernel
theorem dX4_most_44 : decode cX4_most 44 = .ok (.iload_n 3, 1) := by decide +kernel
theorem dX4_most_45 : decode cX4_most 45 = .ok (.ireturn, 1) := by decide +kernel
theorem dX4_negated_0 : decode cX4_negated 0 = .ok (.sipush 201, 3) := by decide +kernel
theorem dX4_negated_3 : decode cX4_negated 3 = .ok (.newarray .int, 2) := by decide +kernel
theorem dX4_negated_5 : decode cX4_negated 5 = .ok (.astore_n 1, 1) := by decide +kernel
theorem dX4_negated_6 : decode cX4_negated 6 = .ok (.iconst 0, 1) := by decide +kernel
theorem dX4_negated_7 : decode cX4_negated 7 = .ok (.istore_n 2, 1) := by decide +kernel
theorem dX4_negated_8 : decode cX4_negated 8 = .ok (.iload_n 2, 1) := by decide +kernel
theorem dX4_negated_9 : decode cX4_negated 9 = .ok (.sipush 201, 3) := by decide +kernel
theorem dX4_negated_12 : decode cX4_negated 12 = .ok (.if_icmp .ge 16, 3) := by decide +kernel
theorem dX4_negated_15 : decode cX4_negated 15 = .ok (.aload_n 1, 1) := by decide +kernel
theorem dX4_negated_16 : decode cX4_negated 16 = .ok (.iload_n 2, 1) := by decide +kernel
theorem dX4_negated_17 : decode cX4_negated 17 = .ok (.aload_n 0, 1) := by decide +kernel
theorem dX4_negated_18 : decode cX4_negated 18 = .ok (.iload_n 2, 1) := by decide +kernel
theorem dX4_negated_19 : decode cX4_negated 19 = .ok (.iaload, 1) := by decide +kernel
theorem dX4_negated_20 : decode cX4_negated 20 = .ok (.ineg, 1) := by decide +kernel
theorem dX4_negated_21 : decode cX4_negated 21 = .ok (.iastore, 1) := by decide +kernel
theorem dX4_negated_22 : decode cX4_negated 22 = .ok (.iinc 2 1, 3) := by decide +kernel
theorem dX4_negated_25 : decode cX4_negated 25 = .ok (.goto (-17), 3) := by decide +kernel
theorem dX4_negated_28 : decode cX4_negated 28 = .ok (.aload_n 1, 1) := by decide +kernel
theorem dX4_negated_29 : decode cX4_negated 29 = .ok (.areturn, 1) := by decide +kernel
set_option maxRecDepth 20000 in
theorem ggX4_sumTo_X4_kept : GoodIn wsX4_sumTo wsX4_kept := goodIn_r _ [4, 5, 6, 7, 8, 9, 10, 11] (by decide +kernel) (by decide +kernel)
set_option maxRecDepth 20000 in
theorem gX4_sumTo_X4_kept : GoodIn wsX4_sumTo (va_wsS RX4 105 yX4_kept wsX4_kept) := goodIn_app (goodIn_of _ (by decide +kernel)) ggX4_sumTo_X4_kept
theorem dX4_sumTo_0 : decode cX4_sumTo 0 = .ok (.iconst 0, 1) := by decide +kernel
theorem dX4_sumTo_1 : decode cX4_sumTo 1 = .ok (.istore_n 2, 1) := by decide +kernel
theorem dX4_sumTo_2 : decode cX4_sumTo 2 = .ok (.iconst 1, 1) := by decide +kernel
theorem dX4_sumTo_3 : decode cX4_sumTo 3 = .ok (.istore_n 3, 1) := by decide +kernel
theorem dX4_sumTo_4 : decode cX4_sumTo 4 = .ok (.iload_n 3, 1) := by decide +kernel
theorem dX4_sumTo_5 : decode cX4_sumTo 5 = .ok (.iload_n 1, 1) := by decide +kernel
theorem dX4_sumTo_6 : decode cX4_sumTo 6 = .ok (.if_icmp .gt 15, 3) := by decide +kernel
theorem dX4_sumTo_9 : decode cX4_sumTo 9 = .ok (.iload_n 2, 1) := by decide +kernel
theorem dX4_sumTo_10 : decode cX4_sumTo 10 = .ok (.aload_n 0, 1) := by decide +kernel
theorem dX4_sumTo_11 : decode cX4_sumTo 11 = .ok (.iload_n 3, 1) := by decide +kernel
theorem dX4_sumTo_12 : decode cX4_sumTo 12 = .ok (.iaload, 1) := by decide +kernel
theorem dX4_sumTo_13 : decode cX4_sumTo 13 = .ok (.iadd, 1) := by decide +kernel
theorem dX4_sumTo_14 : decode cX4_sumTo 14 = .ok (.istore_n 2, 1) := by decide +kernel
theorem dX4_sumTo_15 : decode cX4_sumTo 15 = .ok (.iinc 3 2, 3) := by decide +kernel
theorem dX4_sumTo_18 : decode cX4_sumTo 18 = .ok (.goto (-14), 3) := by decide +kernel
theorem dX4_sumTo_21 : decode cX4_sumTo 21 = .ok (.iload_n 2, 1) := by decide +kernel
theorem dX4_sumTo_22 : decode cX4_sumTo 22 = .ok (.invokestatic 105, 3) := by decide +kernel
theorem dX4_sumTo_25 : decode cX4_sumTo 25 = .ok (.ireturn, 1) := by decide +kernel
set_option maxRecDepth 20000 in
theorem ggX4_turn_X4_isFunction : GoodIn wsX4_turn wsX4_isFunction := goodIn_r _ [7, 8, 9, 6, 10] (by decide +kernel) (by decide +kernel)
set_option maxRecDepth 20000 in
theorem gX4_turn_X4_isFunction : GoodIn wsX4_turn (va_wsS RX4 102 yX4_isFunction wsX4_isFunction) := goodIn_app (goodIn_of _ (by decide +kernel)) ggX4_turn_X4_isFunction
set_option maxRecDepth 20000 in
theorem ggX4_turn_X4_no : GoodIn wsX4_turn wsX4_no := goodIn_r _ [14, 1, 37, 38, 39] (by decide +kernel) (by decide +kernel)
set_option maxRecDepth 20000 in
theorem gX4_turn_X4_no : GoodIn wsX4_turn (wsV RX4 51 RX4 yX4_no wsX4_no) := goodIn_app (goodIn_of _ (by decide +kernel)) ggX4_turn_X4_no
set_option maxRecDepth 20000 in
theorem ggX4_turn_X4_isIn : GoodIn wsX4_turn wsX4_isIn := goodIn_r _ [10] (by decide +kernel) (by decide +kernel)
set_option maxRecDepth 20000 in
theorem gX4_turn_X4_isIn : GoodIn wsX4_turn (va_wsS RX4 23 yX4_isIn wsX4_isIn) := goodIn_app (goodIn_of _ (by decide +kernel)) ggX4_turn_X4_isIn
set_option maxRecDepth 20000 in
theorem ggX4_turn_X4_negated : GoodIn wsX4_turn wsX4_negated := goodIn_r _ [17, 3] (by decide +kernel) (by decide +kernel)
set_option maxRecDepth 20000 in
theorem gX4_turn_X4_negated : GoodIn wsX4_turn (va_wsS RX4 115 yX4_negated wsX4_negated) := goodIn_app (goodIn_of _ (by decide +kernel)) ggX4_turn_X4_negated
set_option maxRecDepth 20000 in
theorem ggX4_turn_X4_most : GoodIn wsX4_turn wsX4_most := goodIn_r _ [20, 21, 22, 23, 24] (by decide +kernel) (by decide +kernel)
set_option maxRecDepth 20000 in
theorem gX4_turn_X4_most : GoodIn wsX4_turn (va_wsS RX4 119 yX4_most wsX4_most) := goodIn_app (goodIn_of _ (by decide +kernel)) ggX4_turn_X4_most
set_option maxRecDepth 20000 in
theorem ggX4_turn_X4_sumTo : GoodIn wsX4_turn wsX4_sumTo := goodIn_r _ [27, 28, 29, 6, 30, 31, 32, 23, 33, 21, 22, 24] (by decide +kernel) (by decide +kernel)
set_option maxRecDepth 20000 in
theorem gX4_turn_X4_sumTo : GoodIn wsX4_turn (va_wsS RX4 123 yX4_sumTo wsX4_sumTo) := goodIn_app (goodIn_of _ (by decide +kernel)) ggX4_turn_X4_sumTo
set_option maxRecDepth 20000 in
theorem ggX4_turn_X4_steps : GoodIn wsX4_turn wsX4_steps := goodIn_r _ [36] (by decide +kernel) (by decide +kernel)
set_option maxRecDepth 20000 in
theorem gX4_turn_X4_steps : GoodIn wsX4_turn (va_wsS RX4 108 yX4_steps wsX4_steps) := goodIn_app (goodIn_of _ (by decide +kernel)) ggX4_turn_X4_steps
theorem dX4_turn_0 : decode cX4_turn 0 = .ok (.aload_n 0, 1) := by decide +kernel
theorem dX4_turn_1 : decode cX4_turn 1 = .ok (.iconst 0, 1) := by decide +kernel
theorem dX4_turn_2 : decode cX4_turn 2 = .ok (.putfield 19, 3) := by decide +kernel
theorem dX4_turn_5 : decode cX4_turn 5 = .ok (.iload_n 1, 1) := by decide +kernel
theorem dX4_turn_6 : decode cX4_turn 6 = .ok (.invokestatic 102, 3) := by decide +kernel
theorem dX4_turn_9 : decode cX4_turn 9 = .ok (.ifCond .ne 9, 3) := by decide +kernel
theorem dX4_turn_12 : decode cX4_turn 12 = .ok (.aload_n 0, 1) := by decide +kernel
theorem dX4_turn_13 : decode cX4_turn 13 = .ok (.iconst 1, 1) := by decide +kernel
theorem dX4_turn_14 : decode cX4_turn 14 = .ok (.invokevirtual 51, 3) := by decide +kernel
theorem dX4_turn_17 : decode cX4_turn 17 = .ok (.ireturn, 1) := by decide +kernel
theorem dX4_turn_18 : decode cX4_turn 18 = .ok (.iload_n 2, 1) := by decide +kernel
theorem dX4_turn_19 : decode cX4_turn 19 = .ok (.iconst 0, 1) := by decide +kernel
theorem dX4_turn_20 : decode cX4_turn 20 = .ok (.bipush 6, 2) := by decide +kernel
theorem dX4_turn_22 : decode cX4_turn 22 = .ok (.invokestatic 23, 3) := by decide +kernel
theorem dX4_turn_25 : decode cX4_turn 25 = .ok (.ifCond .eq 19, 3) := by decide +kernel
theorem dX4_turn_28 : decode cX4_turn 28 = .ok (.iload_n 2, 1) := by decide +kernel
theorem dX4_turn_29 : decode cX4_turn 29 = .ok (.iconst 4, 1) := by decide +kernel
theorem dX4_turn_30 : decode cX4_turn 30 = .ok (.if_icmp .le 20, 3) := by decide +kernel
theorem dX4_turn_33 : decode cX4_turn 33 = .ok (.iload_n 3, 1) := by decide +kernel
theorem dX4_turn_34 : decode cX4_turn 34 = .ok (.iconst 0, 1) := by decide +kernel
theorem dX4_turn_35 : decode cX4_turn 35 = .ok (.sipush 200, 3) := by decide +kernel
theorem dX4_turn_38 : decode cX4_turn 38 = .ok (.invokestatic 23, 3) := by decide +kernel
theorem dX4_turn_41 : decode cX4_turn 41 = .ok (.ifCond .ne 9, 3) := by decide +kernel
theorem dX4_turn_44 : decode cX4_turn 44 = .ok (.aload_n 0, 1) := by decide +kernel
theorem dX4_turn_45 : decode cX4_turn 45 = .ok (.iconst 2, 1) := by decide +kernel
theorem dX4_turn_46 : decode cX4_turn 46 = .ok (.invokevirtual 51, 3) := by decide +kernel
theorem dX4_turn_49 : decode cX4_turn 49 = .ok (.ireturn, 1) := by decide +kernel
theorem dX4_turn_50 : decode cX4_turn 50 = .ok (.aload_n 0, 1) := by decide +kernel
theorem dX4_turn_51 : decode cX4_turn 51 = .ok (.getfield 16, 3) := by decide +kernel
theorem dX4_turn_54 : decode cX4_turn 54 = .ok (.iload_n 1, 1) := by decide +kernel
theorem dX4_turn_55 : decode cX4_turn 55 = .ok (.aaload, 1) := by decide +kernel
theorem dX4_turn_56 : decode cX4_turn 56 = .ok (.astore 4, 2) := by decide +kernel
theorem dX4_turn_58 : decode cX4_turn 58 = .ok (.aload 4, 2) := by decide +kernel
theorem dX4_turn_60 : decode cX4_turn 60 = .ok (.invokestatic 115, 3) := by decide +kernel
theorem dX4_turn_63 : decode cX4_turn 63 = .ok (.astore 5, 2) := by decide +kernel
theorem dX4_turn_65 : decode cX4_turn 65 = .ok (.sipush 201, 3) := by decide +kernel
theorem dX4_turn_68 : decode cX4_turn 68 = .ok (.newarray .int, 2) := by decide +kernel
theorem dX4_turn_70 : decode cX4_turn 70 = .ok (.astore 6, 2) := by decide +kernel
theorem dX4_turn_72 : decode cX4_turn 72 = .ok (.iconst 0, 1) := by decide +kernel
theorem dX4_turn_73 : decode cX4_turn 73 = .ok (.istore 7, 2) := by decide +kernel
theorem dX4_turn_75 : decode cX4_turn 75 = .ok (.iload 7, 2) := by decide +kernel
theorem dX4_turn_77 : decode cX4_turn 77 = .ok (.sipush 201, 3) := by decide +kernel
theorem dX4_turn_80 : decode cX4_turn 80 = .ok (.if_icmp .ge 169, 3) := by decide +kernel
theorem dX4_turn_83 : decode cX4_turn 83 = .ok (.iload_n 2, 1) := by decide +kernel
theorem dX4_turn_84 : decode cX4_turn 84 = .ok (.tableswitch 140 0 5 #[40, 53, 69, 87, 102, 119], 40) := by decide +kernel
theorem dX4_turn_124 : decode cX4_turn 124 = .ok (.aload 6, 2) := by decide +kernel
theorem dX4_turn_126 : decode cX4_turn 126 = .ok (.iload 7, 2) := by decide +kernel
theorem dX4_turn_128 : decode cX4_turn 128 = .ok (.aload 5, 2) := by decide +kernel
theorem dX4_turn_130 : decode cX4_turn 130 = .ok (.iload 7, 2) := by decide +kernel
theorem dX4_turn_132 : decode cX4_turn 132 = .ok (.iaload, 1) := by decide +kernel
theorem dX4_turn_133 : decode cX4_turn 133 = .ok (.iastore, 1) := by decide +kernel
theorem dX4_turn_134 : decode cX4_turn 134 = .ok (.goto 109, 3) := by decide +kernel
theorem dX4_turn_137 : decode cX4_turn 137 = .ok (.aload 6, 2) := by decide +kernel
theorem dX4_turn_139 : decode cX4_turn 139 = .ok (.iload 7, 2) := by decide +kernel
theorem dX4_turn_141 : decode cX4_turn 141 = .ok (.aload 4, 2) := by decide +kernel
theorem dX4_turn_143 : decode cX4_turn 143 = .ok (.iconst 0, 1) := by decide +kernel
theorem dX4_turn_144 : decode cX4_turn 144 = .ok (.iload 7, 2) := by decide +kernel
theorem dX4_turn_146 : decode cX4_turn 146 = .ok (.invokestatic 119, 3) := by decide +kernel
theorem dX4_turn_149 : decode cX4_turn 149 = .ok (.iastore, 1) := by decide +kernel
theorem dX4_turn_150 : decode cX4_turn 150 = .ok (.goto 93, 3) := by decide +kernel
theorem dX4_turn_153 : decode cX4_turn 153 = .ok (.aload 6, 2) := by decide +kernel
theorem dX4_turn_155 : decode cX4_turn 155 = .ok (.iload 7, 2) := by decide +kernel
theorem dX4_turn_157 : decode cX4_turn 157 = .ok (.aload 4, 2) := by decide +kernel
theorem dX4_turn_159 : decode cX4_turn 159 = .ok (.iload 7, 2) := by decide +kernel
theorem dX4_turn_161 : decode cX4_turn 161 = .ok (.sipush 201, 3) := by decide +kernel
theorem dX4_turn_164 : decode cX4_turn 164 = .ok (.invokestatic 119, 3) := by decide +kernel
theorem dX4_turn_167 : decode cX4_turn 167 = .ok (.iastore, 1) := by decide +kernel
theorem dX4_turn_168 : decode cX4_turn 168 = .ok (.goto 75, 3) := by decide +kernel
theorem dX4_turn_171 : decode cX4_turn 171 = .ok (.aload 6, 2) := by decide +kernel
theorem dX4_turn_173 : decode cX4_turn 173 = .ok (.iload 7, 2) := by decide +kernel
theorem dX4_turn_175 : decode cX4_turn 175 = .ok (.aload 4, 2) := by decide +kernel
theorem dX4_turn_177 : decode cX4_turn 177 = .ok (.iload 7, 2) := by decide +kernel
theorem dX4_turn_179 : decode cX4_turn 179 = .ok (.invokestatic 123, 3) := by decide +kernel
theorem dX4_turn_182 : decode cX4_turn 182 = .ok (.iastore, 1) := by decide +kernel
theorem dX4_turn_183 : decode cX4_turn 183 = .ok (.goto 60, 3) := by decide +kernel
theorem dX4_turn_186 : decode cX4_turn 186 = .ok (.aload 6, 2) := by decide +kernel
theorem dX4_turn_188 : decode cX4_turn 188 = .ok (.iload 7, 2) := by decide +kernel
theorem dX4_turn_190 : decode cX4_turn 190 = .ok (.aload 4, 2) := by decide +kernel
theorem dX4_turn_192 : decode cX4_turn 192 = .ok (.sipush 200, 3) := by decide +kernel
theorem dX4_turn_195 : decode cX4_turn 195 = .ok (.iload 7, 2) := by decide +kernel
theorem dX4_turn_197 : decode cX4_turn 197 = .ok (.isub, 1) := by decide +kernel
theorem dX4_turn_198 : decode cX4_turn 198 = .ok (.iaload, 1) := by decide +kernel
theorem dX4_turn_199 : decode cX4_turn 199 = .ok (.iastore, 1) := by decide +kernel
theorem dX4_turn_200 : decode cX4_turn 200 = .ok (.goto 43, 3) := by decide +kernel
theorem dX4_turn_203 : decode cX4_turn 203 = .ok (.aload 6, 2) := by decide +kernel
theorem dX4_turn_205 : decode cX4_turn 205 = .ok (.iload 7, 2) := by decide +kernel
theorem dX4_turn_207 : decode cX4_turn 207 = .ok (.aload 4, 2) := by decide +kernel
theorem dX4_turn_209 : decode cX4_turn 209 = .ok (.iload 7, 2) := by decide +kernel
theorem dX4_turn_211 : decode cX4_turn 211 = .ok (.iload_n 3, 1) := by decide +kernel
theorem dX4_turn_212 : decode cX4_turn 212 = .ok (.isub, 1) := by decide +kernel
theorem dX4_turn_213 : decode cX4_turn 213 = .ok (.iload 7, 2) := by decide +kernel
theorem dX4_turn_215 : decode cX4_turn 215 = .ok (.iload_n 3, 1) := by decide +kernel
theorem dX4_turn_216 : decode cX4_turn 216 = .ok (.iadd, 1) := by decide +kernel
theorem dX4_turn_217 : decode cX4_turn 217 = .ok (.invokestatic 119, 3) := by decide +kernel
theorem dX4_turn_220 : decode cX4_turn 220 = .ok (.iastore, 1) := by decide +kernel
theorem dX4_turn_221 : decode cX4_turn 221 = .ok (.goto 22, 3) := by decide +kernel
theorem dX4_turn_224 : decode cX4_turn 224 = .ok (.aload 6, 2) := by decide +kernel
theorem dX4_turn_226 : decode cX4_turn 226 = .ok (.iload 7, 2) := by decide +kernel
theorem dX4_turn_228 : decode cX4_turn 228 = .ok (.aload 5, 2) := by decide +kernel
theorem dX4_turn_230 : decode cX4_turn 230 = .ok (.iload 7, 2) := by decide +kernel
theorem dX4_turn_232 : decode cX4_turn 232 = .ok (.iload_n 3, 1) := by decide +kernel
theorem dX4_turn_233 : decode cX4_turn 233 = .ok (.isub, 1) := by decide +kernel
theorem dX4_turn_234 : decode cX4_turn 234 = .ok (.iload 7, 2) := by decide +kernel
theorem dX4_turn_236 : decode cX4_turn 236 = .ok (.iload_n 3, 1) := by decide +kernel
theorem dX4_turn_237 : decode cX4_turn 237 = .ok (.iadd, 1) := by decide +kernel
theorem dX4_turn_238 : decode cX4_turn 238 = .ok (.invokestatic 119, 3) := by decide +kernel
theorem dX4_turn_241 : decode cX4_turn 241 = .ok (.ineg, 1) := by decide +kernel
theorem dX4_turn_242 : decode cX4_turn 242 = .ok (.iastore, 1) := by decide +kernel
theorem dX4_turn_243 : decode cX4_turn 243 = .ok (.iinc 7 1, 3) := by decide +kernel
theorem dX4_turn_246 : decode cX4_turn 246 = .ok (.goto (-171), 3) := by decide +kernel
theorem dX4_turn_249 : decode cX4_turn 249 = .ok (.aload_n 0, 1) := by decide +kernel
theorem dX4_turn_250 : decode cX4_turn 250 = .ok (.getfield 16, 3) := by decide +kernel
theorem dX4_turn_253 : decode cX4_turn 253 = .ok (.iload_n 1, 1) := by decide +kernel
theorem dX4_turn_254 : decode cX4_turn 254 = .ok (.aload 6, 2) := by decide +kernel
theorem dX4_turn_256 : decode cX4_turn 256 = .ok (.aastore, 1) := by decide +kernel
theorem dX4_turn_257 : decode cX4_turn 257 = .ok (.aload 6, 2) := by decide +kernel
theorem dX4_turn_259 : decode cX4_turn 259 = .ok (.invokestatic 108, 3) := by decide +kernel
theorem dX4_turn_262 : decode cX4_turn 262 = .ok (.ireturn, 1) := by decide +kernel
theorem dX4_thickness_0 : decode cX4_thickness 0 = .ok (.iconst 0, 1) := by decide +kernel
theorem dX4_thickness_1 : decode cX4_thickness 1 = .ok (.istore_n 3, 1) := by decide +kernel
theorem dX4_thickness_2 : decode cX4_thickness 2 = .ok (.iconst 0, 1) := by decide +kernel
theorem dX4_thickness_3 : decode cX4_thickness 3 = .ok (.istore 4, 2) := by decide +kernel
theorem dX4_thickness_5 : decode cX4_thickness 5 = .ok (.iload 4, 2) := by decide +kernel
theorem dX4_thickness_7 : decode cX4_thickness 7 = .ok (.bipush 8, 2) := by decide +kernel
theorem dX4_thickness_9 : decode cX4_thickness 9 = .ok (.if_icmp .ge 39, 3) := by decide +kernel
theorem dX4_thickness_12 : decode cX4_thickness 12 = .ok (.iload_n 3, 1) := by decide +kernel
theorem dX4_thickness_13 : decode cX4_thickness 13 = .ok (.iload_n 1, 1) := by decide +kernel
theorem dX4_thickness_14 : decode cX4_thickness 14 = .ok (.iload 4, 2) := by decide +kernel
theorem dX4_thickness_16 : decode cX4_thickness 16 = .ok (.ishr, 1) := by decide +kernel
theorem dX4_thickness_17 : decode cX4_thickness 17 = .ok (.iconst 1, 1) := by decide +kernel
theorem dX4_thickness_18 : decode cX4_thickness 18 = .ok (.iand, 1) := by decide +kernel
theorem dX4_thickness_19 : decode cX4_thickness 19 = .ok (.iconst 1, 1) := by decide +kernel
theorem dX4_thickness_20 : decode cX4_thickness 20 = .ok (.if_icmp .ne 19, 3) := by decide +kernel
theorem dX4_thickness_23 : decode cX4_thickness 23 = .ok (.aload_n 0, 1) := by decide +kernel
theorem dX4_thickness_24 : decode cX4_thickness 24 = .ok (.getfield 11, 3) := by decide +kernel
theorem dX4_thickness_27 : decode cX4_thickness 27 = .ok (.iload 4, 2) := by decide +kernel
theorem dX4_thickness_29 : decode cX4_thickness 29 = .ok (.aaload, 1) := by decide +kernel
theorem dX4_thickness_30 : decode cX4_thickness 30 = .ok (.iload_n 2, 1) := by decide +kernel
theorem dX4_thickness_31 : decode cX4_thickness 31 = .ok (.baload, 1) := by decide +kernel
theorem dX4_thickness_32 : decode cX4_thickness 32 = .ok (.ifCond .eq 7, 3) := by decide +kernel
theorem dX4_thickness_35 : decode cX4_thickness 35 = .ok (.iconst 1, 1) := by decide +kernel
theorem dX4_thickness_36 : decode cX4_thickness 36 = .ok (.goto 4, 3) := by decide +kernel
theorem dX4_thickness_39 : decode cX4_thickness 39 = .ok (.iconst 0, 1) := by decide +kernel
theorem dX4_thickness_40 : decode cX4_thickness 40 = .ok (.iadd, 1) := by decide +kernel
theorem dX4_thickness_41 : decode cX4_thickness 41 = .ok (.istore_n 3, 1) := by decide +kernel
theorem dX4_thickness_42 : decode cX4_thickness 42 = .ok (.iinc 4 1, 3) := by decide +kernel
theorem dX4_thickness_45 : decode cX4_thickness 45 = .ok (.goto (-40), 3) := by decide +kernel
theorem dX4_thickness_48 : decode cX4_thickness 48 = .ok (.iload_n 3, 1) := by decide +kernel
theorem dX4_thickness_49 : decode cX4_thickness 49 = .ok (.ireturn, 1) := by decide +kernel
set_option maxRecDepth 20000 in
theorem ggX4_thick_X4_isFunction : GoodIn wsX4_thick wsX4_isFunction := goodIn_r _ [6, 7, 8, 5, 9] (by decide +kernel) (by decide +kernel)
set_option maxRecDepth 20000 in
theorem gX4_thick_X4_isFunction : GoodIn wsX4_thick (va_wsS RX4 102 yX4_isFunction wsX4_isFunction) := goodIn_app (goodIn_of _ (by decide +kernel)) ggX4_thick_X4_isFunction
set_option maxRecDepth 20000 in
theorem ggX4_thick_X4_no : GoodIn wsX4_thick wsX4_no := goodIn_r _ [13, 1, 22, 23, 24] (by decide +kernel) (by decide +kernel)
set_option maxRecDepth 20000 in
theorem gX4_thick_X4_no : GoodIn wsX4_thick (wsV RX4 51 RX4 yX4_no wsX4_no) := goodIn_app (goodIn_of _ (by decide +kernel)) ggX4_thick_X4_no
set_option maxRecDepth 20000 in
theorem ggX4_thick_X4_isIn : GoodIn wsX4_thick wsX4_isIn := goodIn_r _ [9] (by decide +kernel) (by decide +kernel)
set_option maxRecDepth 20000 in
theorem gX4_thick_X4_isIn : GoodIn wsX4_thick (va_wsS RX4 23 yX4_isIn wsX4_isIn) := goodIn_app (goodIn_of _ (by decide +kernel)) ggX4_thick_X4_isIn
set_option maxRecDepth 20000 in
theorem ggX4_thick_X4_thickness : GoodIn wsX4_thick wsX4_thickness := goodIn_r _ [17, 18, 22, 23, 24] (by decide +kernel) (by decide +kernel)
set_option maxRecDepth 20000 in
theorem gX4_thick_X4_thickness : GoodIn wsX4_thick (wsV RX4 127 RX4 yX4_thickness wsX4_thickness) := goodIn_app (goodIn_of _ (by decide +kernel)) ggX4_thick_X4_thickness
set_option maxRecDepth 20000 in
theorem ggX4_thick_X4_steps : GoodIn wsX4_thick wsX4_steps := goodIn_r _ [21] (by decide +kernel) (by decide +kernel)
set_option maxRecDepth 20000 in
theorem gX4_thick_X4_steps : GoodIn wsX4_thick (va_wsS RX4 108 yX4_steps wsX4_steps) := goodIn_app (goodIn_of _ (by decide +kernel)) ggX4_thick_X4_steps
theorem dX4_thick_0 : decode cX4_thick 0 = .ok (.aload_n 0, 1) := by decide +kernel
theorem dX4_thick_1 : decode cX4_thick 1 = .ok (.iconst 0, 1) := by decide +kernel
theorem dX4_thick_2 : decode cX4_thick 2 = .ok (.putfield 19, 3) := by decide +kernel
theorem dX4_thick_5 : decode cX4_thick 5 = .ok (.iload_n 1, 1) := by decide +kernel
theorem dX4_thick_6 : decode cX4_thick 6 = .ok (.invokestatic 102, 3) := by decide +kernel
theorem dX4_thick_9 : decode cX4_thick 9 = .ok (.ifCond .ne 9, 3) := by decide +kernel
theorem dX4_thick_12 : decode cX4_thick 12 = .ok (.aload_n 0, 1) := by decide +kernel
theorem dX4_thick_13 : decode cX4_thick 13 = .ok (.iconst 1, 1) := by decide +kernel
theorem dX4_thick_14 : decode cX4_thick 14 = .ok (.invokevirtual 51, 3) := by decide +kernel
theorem dX4_thick_17 : decode cX4_thick 17 = .ok (.ireturn, 1) := by decide +kernel
theorem dX4_thick_18 : decode cX4_thick 18 = .ok (.iload_n 2, 1) := by decide +kernel
theorem dX4_thick_19 : decode cX4_thick 19 = .ok (.iconst 0, 1) := by decide +kernel
theorem dX4_thick_20 : decode cX4_thick 20 = .ok (.sipush 255, 3) := by decide +kernel
theorem dX4_thick_23 : decode cX4_thick 23 = .ok (.invokestatic 23, 3) := by decide +kernel
theorem dX4_thick_26 : decode cX4_thick 26 = .ok (.ifCond .ne 9, 3) := by decide +kernel
theorem dX4_thick_29 : decode cX4_thick 29 = .ok (.aload_n 0, 1) := by decide +kernel
theorem dX4_thick_30 : decode cX4_thick 30 = .ok (.iconst 2, 1) := by decide +kernel
theorem dX4_thick_31 : decode cX4_thick 31 = .ok (.invokevirtual 51, 3) := by decide +kernel
theorem dX4_thick_34 : decode cX4_thick 34 = .ok (.ireturn, 1) := by decide +kernel
theorem dX4_thick_35 : decode cX4_thick 35 = .ok (.iconst 0, 1) := by decide +kernel
theorem dX4_thick_36 : decode cX4_thick 36 = .ok (.istore_n 3, 1) := by decide +kernel
theorem dX4_thick_37 : decode cX4_thick 37 = .ok (.iload_n 3, 1) := by decide +kernel
theorem dX4_thick_38 : decode cX4_thick 38 = .ok (.sipush 201, 3) := by decide +kernel
theorem dX4_thick_41 : decode cX4_thick 41 = .ok (.if_icmp .ge 23, 3) := by decide +kernel
theorem dX4_thick_44 : decode cX4_thick 44 = .ok (.aload_n 0, 1) := by decide +kernel
theorem dX4_thick_45 : decode cX4_thick 45 = .ok (.getfield 16, 3) := by decide +kernel
theorem dX4_thick_48 : decode cX4_thick 48 = .ok (.iload_n 1, 1) := by decide +kernel
theorem dX4_thick_49 : decode cX4_thick 49 = .ok (.aaload, 1) := by decide +kernel
theorem dX4_thick_50 : decode cX4_thick 50 = .ok (.iload_n 3, 1) := by decide +kernel
theorem dX4_thick_51 : decode cX4_thick 51 = .ok (.aload_n 0, 1) := by decide +kernel
theorem dX4_thick_52 : decode cX4_thick 52 = .ok (.iload_n 2, 1) := by decide +kernel
theorem dX4_thick_53 : decode cX4_thick 53 = .ok (.iload_n 3, 1) := by decide +kernel
theorem dX4_thick_54 : decode cX4_thick 54 = .ok (.invokevirtual 127, 3) := by decide +kernel
theorem dX4_thick_57 : decode cX4_thick 57 = .ok (.iastore, 1) := by decide +kernel
theorem dX4_thick_58 : decode cX4_thick 58 = .ok (.iinc 3 1, 3) := by decide +kernel
theorem dX4_thick_61 : decode cX4_thick 61 = .ok (.goto (-24), 3) := by decide +kernel
theorem dX4_thick_64 : decode cX4_thick 64 = .ok (.aload_n 0, 1) := by decide +kernel
theorem dX4_thick_65 : decode cX4_thick 65 = .ok (.getfield 16, 3) := by decide +kernel
theorem dX4_thick_68 : decode cX4_thick 68 = .ok (.iload_n 1, 1) := by decide +kernel
theorem dX4_thick_69 : decode cX4_thick 69 = .ok (.aaload, 1) := by decide +kernel
theorem dX4_thick_70 : decode cX4_thick 70 = .ok (.invokestatic 108, 3) := by decide +kernel
theorem dX4_thick_73 : decode cX4_thick 73 = .ok (.ireturn, 1) := by decide +kernel
set_option maxRecDepth 20000 in
theorem ggX4_where_X4_isSet : GoodIn wsX4_where wsX4_isSet := goodIn_r _ [7, 8, 9, 6, 10] (by decide +kernel) (by decide +kernel)
set_option maxRecDepth 20000 in
theorem gX4_where_X4_isSet : GoodIn wsX4_where (va_wsS RX4 47 yX4_isSet wsX4_isSet) := goodIn_app (goodIn_of _ (by decide +kernel)) ggX4_where_X4_isSet
set_option maxRecDepth 20000 in
theorem ggX4_where_X4_isFunction : GoodIn wsX4_where wsX4_isFunction := goodIn_r _ [13, 8, 9, 6, 10] (by decide +kernel) (by decide +kernel)
set_option maxRecDepth 20000 in
theorem gX4_where_X4_isFunction : GoodIn wsX4_where (va_wsS RX4 102 yX4_isFunction wsX4_isFunction) := goodIn_app (goodIn_of _ (by decide +kernel)) ggX4_where_X4_isFunction
set_option maxRecDepth 20000 in
theorem ggX4_where_X4_no : GoodIn wsX4_where wsX4_no := goodIn_r _ [17, 1, 21, 22, 23] (by decide +kernel) (by decide +kernel)
set_option maxRecDepth 20000 in
theorem gX4_where_X4_no : GoodIn wsX4_where (wsV RX4 51 RX4 yX4_no wsX4_no) := goodIn_app (goodIn_of _ (by decide +kernel)) ggX4_where_X4_no
set_option maxRecDepth 20000 in
theorem ggX4_where_X4_isIn : GoodIn wsX4_where wsX4_isIn := goodIn_r _ [10] (by decide +kernel) (by decide +kernel)
set_option maxRecDepth 20000 in
theorem gX4_where_X4_isIn : GoodIn wsX4_where (va_wsS RX4 23 yX4_isIn wsX4_isIn) := goodIn_app (goodIn_of _ (by decide +kernel)) ggX4_where_X4_isIn
set_option maxRecDepth 20000 in
theorem ggX4_where_X4_count : GoodIn wsX4_where wsX4_count := goodIn_r _ [20] (by decide +kernel) (by decide +kernel)
set_option maxRecDepth 20000 in
theorem gX4_where_X4_count : GoodIn wsX4_where (va_wsS RX4 62 yX4_count wsX4_count) := goodIn_app (goodIn_of _ (by decide +kernel)) ggX4_where_X4_count
theorem dX4_where_0 : decode cX4_where 0 = .ok (.aload_n 0, 1) := by decide +kernel
theorem dX4_where_1 : decode cX4_where 1 = .ok (.iconst 0, 1) := by decide +kernel
theorem dX4_where_2 : decode cX4_where 2 = .ok (.putfield 19, 3) := by decide +kernel
theorem dX4_where_5 : decode cX4_where 5 = .ok (.iload_n 1, 1) := by decide +kernel
theorem dX4_where_6 : decode cX4_where 6 = .ok (.invokestatic 47, 3) := by decide +kernel
theorem dX4_where_9 : decode cX4_where 9 = .ok (.ifCond .eq 10, 3) := by decide +kernel
theorem dX4_where_12 : decode cX4_where 12 = .ok (.iload_n 2, 1) := by decide +kernel
theorem dX4_where_13 : decode cX4_where 13 = .ok (.invokestatic 102, 3) := by decide +kernel
theorem dX4_where_16 : decode cX4_where 16 = .ok (.ifCond .ne 9, 3) := by decide +kernel
theorem dX4_where_19 : decode cX4_where 19 = .ok (.aload_n 0, 1) := by decide +kernel
theorem dX4_where_20 : decode cX4_where 20 = .ok (.iconst 1, 1) := by decide +kernel
theorem dX4_where_21 : decode cX4_where 21 = .ok (.invokevirtual 51, 3) := by decide +kernel
theorem dX4_where_24 : decode cX4_where 24 = .ok (.ireturn, 1) := by decide +kernel
theorem dX4_where_25 : decode cX4_where 25 = .ok (.iconst 0, 1) := by decide +kernel
theorem dX4_where_26 : decode cX4_where 26 = .ok (.istore 5, 2) := by decide +kernel
theorem dX4_where_28 : decode cX4_where 28 = .ok (.iload 5, 2) := by decide +kernel
theorem dX4_where_30 : decode cX4_where 30 = .ok (.sipush 201, 3) := by decide +kernel
theorem dX4_where_33 : decode cX4_where 33 = .ok (.if_icmp .ge 33, 3) := by decide +kernel
theorem dX4_where_36 : decode cX4_where 36 = .ok (.aload_n 0, 1) := by decide +kernel
theorem dX4_where_37 : decode cX4_where 37 = .ok (.getfield 11, 3) := by decide +kernel
theorem dX4_where_40 : decode cX4_where 40 = .ok (.iload_n 1, 1) := by decide +kernel
theorem dX4_where_41 : decode cX4_where 41 = .ok (.aaload, 1) := by decide +kernel
theorem dX4_where_42 : decode cX4_where 42 = .ok (.iload 5, 2) := by decide +kernel
theorem dX4_where_44 : decode cX4_where 44 = .ok (.aload_n 0, 1) := by decide +kernel
theorem dX4_where_45 : decode cX4_where 45 = .ok (.getfield 16, 3) := by decide +kernel
theorem dX4_where_48 : decode cX4_where 48 = .ok (.iload_n 2, 1) := by decide +kernel
theorem dX4_where_49 : decode cX4_where 49 = .ok (.aaload, 1) := by decide +kernel
theorem dX4_where_50 : decode cX4_where 50 = .ok (.iload 5, 2) := by decide +kernel
theorem dX4_where_52 : decode cX4_where 52 = .ok (.iaload, 1) := by decide +kernel
theorem dX4_where_53 : decode cX4_where 53 = .ok (.iload_n 3, 1) := by decide +kernel
theorem dX4_where_54 : decode cX4_where 54 = .ok (.iload 4, 2) := by decide +kernel
theorem dX4_where_56 : decode cX4_where 56 = .ok (.invokestatic 23, 3) := by decide +kernel
theorem dX4_where_59 : decode cX4_where 59 = .ok (.bastore, 1) := by decide +kernel
theorem dX4_where_60 : decode cX4_where 60 = .ok (.iinc 5 1, 3) := by decide +kernel
theorem dX4_where_63 : decode cX4_where 63 = .ok (.goto (-35), 3) := by decide +kernel
theorem dX4_where_66 : decode cX4_where 66 = .ok (.aload_n 0, 1) := by decide +kernel
theorem dX4_where_67 : decode cX4_where 67 = .ok (.getfield 11, 3) := by decide +kernel
theorem dX4_where_70 : decode cX4_where 70 = .ok (.iload_n 1, 1) := by decide +kernel
theorem dX4_where_71 : decode cX4_where 71 = .ok (.aaload, 1) := by decide +kernel
theorem dX4_where_72 : decode cX4_where 72 = .ok (.invokestatic 62, 3) := by decide +kernel
theorem dX4_where_75 : decode cX4_where 75 = .ok (.ireturn, 1) := by decide +kernel
theorem dX4_areaOf_0 : decode cX4_areaOf 0 = .ok (.iconst 0, 1) := by decide +kernel
theorem dX4_areaOf_1 : decode cX4_areaOf 1 = .ok (.istore_n 3, 1) := by decide +kernel
theorem dX4_areaOf_2 : decode cX4_areaOf 2 = .ok (.iload_n 1, 1) := by decide +kernel
theorem dX4_areaOf_3 : decode cX4_areaOf 3 = .ok (.istore 4, 2) := by decide +kernel
theorem dX4_areaOf_5 : decode cX4_areaOf 5 = .ok (.iload 4, 2) := by decide +kernel
theorem dX4_areaOf_7 : decode cX4_areaOf 7 = .ok (.iload_n 2, 1) := by decide +kernel
theorem dX4_areaOf_8 : decode cX4_areaOf 8 = .ok (.if_icmp .ge 28, 3) := by decide +kernel
theorem dX4_areaOf_11 : decode cX4_areaOf 11 = .ok (.iload_n 3, 1) := by decide +kernel
theorem dX4_areaOf_12 : decode cX4_areaOf 12 = .ok (.iload 4, 2) := by decide +kernel
theorem dX4_areaOf_14 : decode cX4_areaOf 14 = .ok (.iconst 2, 1) := by decide +kernel
theorem dX4_areaOf_15 : decode cX4_areaOf 15 = .ok (.irem, 1) := by decide +kernel
theorem dX4_areaOf_16 : decode cX4_areaOf 16 = .ok (.iconst 1, 1) := by decide +kernel
theorem dX4_areaOf_17 : decode cX4_areaOf 17 = .ok (.if_icmp .ne 10, 3) := by decide +kernel
theorem dX4_areaOf_20 : decode cX4_areaOf 20 = .ok (.aload_n 0, 1) := by decide +kernel
theorem dX4_areaOf_21 : decode cX4_areaOf 21 = .ok (.iload 4, 2) := by decide +kernel
theorem dX4_areaOf_23 : decode cX4_areaOf 23 = .ok (.iaload, 1) := by decide +kernel
theorem dX4_areaOf_24 : decode cX4_areaOf 24 = .ok (.goto 4, 3) := by decide +kernel
theorem dX4_areaOf_27 : decode cX4_areaOf 27 = .ok (.iconst 0, 1) := by decide +kernel
theorem dX4_areaOf_28 : decode cX4_areaOf 28 = .ok (.iadd, 1) := by decide +kernel
theorem dX4_areaOf_29 : decode cX4_areaOf 29 = .ok (.istore_n 3, 1) := by decide +kernel
theorem dX4_areaOf_30 : decode cX4_areaOf 30 = .ok (.iinc 4 1, 3) := by decide +kernel
theorem dX4_areaOf_33 : decode cX4_areaOf 33 = .ok (.goto (-28), 3) := by decide +kernel
theorem dX4_areaOf_36 : decode cX4_areaOf 36 = .ok (.iload_n 3, 1) := by decide +kernel
theorem dX4_areaOf_37 : decode cX4_areaOf 37 = .ok (.ireturn, 1) := by decide +kernel
set_option maxRecDepth 20000 in
theorem ggX4_functionNow_X4_steps : GoodIn wsX4_functionNow wsX4_steps := goodIn_r _ [5] (by decide +kernel) (by decide +kernel)
set_option maxRecDepth 20000 in
theorem gX4_functionNow_X4_steps : GoodIn wsX4_functionNow (va_wsS RX4 108 yX4_steps wsX4_steps) := goodIn_app (goodIn_of _ (by decide +kernel)) ggX4_functionNow_X4_steps
set_option maxRecDepth 20000 in
theorem ggX4_functionNow_X4_negated : GoodIn wsX4_functionNow wsX4_negated := goodIn_r _ [8, 9] (by decide +kernel) (by decide +kernel)
set_option maxRecDepth 20000 in
theorem gX4_functionNow_X4_negated : GoodIn wsX4_functionNow (va_wsS RX4 115 yX4_negated wsX4_negated) := goodIn_app (goodIn_of _ (by decide +kernel)) ggX4_functionNow_X4_negated
set_option maxRecDepth 20000 in
theorem ggX4_functionNow_X4_most : GoodIn wsX4_functionNow wsX4_most := goodIn_r _ [12, 13, 14, 15, 16] (by decide +kernel) (by decide +kernel)
set_option maxRecDepth 20000 in
theorem gX4_functionNow_X4_most : GoodIn wsX4_functionNow (va_wsS RX4 119 yX4_most wsX4_most) := goodIn_app (goodIn_of _ (by decide +kernel)) ggX4_functionNow_X4_most
set_option maxRecDepth 20000 in
theorem ggX4_functionNow_X4_areaOf : GoodIn wsX4_functionNow wsX4_areaOf := goodIn_r _ [19] (by decide +kernel) (by decide +kernel)
set_option maxRecDepth 20000 in
theorem gX4_functionNow_X4_areaOf : GoodIn wsX4_functionNow (va_wsS RX4 130 yX4_areaOf wsX4_areaOf) := goodIn_app (goodIn_of _ (by decide +kernel)) ggX4_functionNow_X4_areaOf
theorem dX4_functionNow_0 : decode cX4_functionNow 0 = .ok (.aload_n 0, 1) := by decide +kernel
theorem dX4_functionNow_1 : decode cX4_functionNow 1 = .ok (.getfield 16, 3) := by decide +kernel
theorem dX4_functionNow_4 : decode cX4_functionNow 4 = .ok (.iload_n 1, 1) := by decide +kernel
theorem dX4_functionNow_5 : decode cX4_functionNow 5 = .ok (.aaload, 1) := by decide +kernel
theorem dX4_functionNow_6 : decode cX4_functionNow 6 = .ok (.astore_n 3, 1) := by decide +kernel
theorem dX4_functionNow_7 : decode cX4_functionNow 7 = .ok (.iload_n 2, 1) := by decide +kernel
theorem dX4_functionNow_8 : decode cX4_functionNow 8 = .ok (.tableswitch 86 0 3 #[32, 37, 50, 59], 32) := by decide +kernel
theorem dX4_functionNow_40 : decode cX4_functionNow 40 = .ok (.aload_n 3, 1) := by decide +kernel
theorem dX4_functionNow_41 : decode cX4_functionNow 41 = .ok (.invokestatic 108, 3) := by decide +kernel
theorem dX4_functionNow_44 : decode cX4_functionNow 44 = .ok (.ireturn, 1) := by decide +kernel
theorem dX4_functionNow_45 : decode cX4_functionNow 45 = .ok (.aload_n 3, 1) := by decide +kernel
theorem dX4_functionNow_46 : decode cX4_functionNow 46 = .ok (.invokestatic 115, 3) := by decide +kernel
theorem dX4_functionNow_49 : decode cX4_functionNow 49 = .ok (.iconst 0, 1) := by decide +kernel
theorem dX4_functionNow_50 : decode cX4_functionNow 50 = .ok (.sipush 201, 3) := by decide +kernel
theorem dX4_functionNow_53 : decode cX4_functionNow 53 = .ok (.invokestatic 119, 3) := by decide +kernel
theorem dX4_functionNow_56 : decode cX4_functionNow 56 = .ok (.ineg, 1) := by decide +kernel
theorem dX4_functionNow_57 : decode cX4_functionNow 57 = .ok (.ireturn, 1) := by decide +kernel
theorem dX4_functionNow_58 : decode cX4_functionNow 58 = .ok (.aload_n 3, 1) := by decide +kernel
theorem dX4_functionNow_59 : decode cX4_functionNow 59 = .ok (.iconst 0, 1) := by decide +kernel
theorem dX4_functionNow_60 : decode cX4_functionNow 60 = .ok (.sipush 201, 3) := by decide +kernel
theorem dX4_functionNow_63 : decode cX4_functionNow 63 = .ok (.invokestatic 119, 3) := by decide +kernel
theorem dX4_functionNow_66 : decode cX4_functionNow 66 = .ok (.ireturn, 1) := by decide +kernel
theorem dX4_functionNow_67 : decode cX4_functionNow 67 = .ok (.iconst 0, 1) := by decide +kernel
theorem dX4_functionNow_68 : decode cX4_functionNow 68 = .ok (.istore 4, 2) := by decide +kernel
theorem dX4_functionNow_70 : decode cX4_functionNow 70 = .ok (.aload_n 3, 1) := by decide +kernel
theorem dX4_functionNow_71 : decode cX4_functionNow 71 = .ok (.iload 4, 2) := by decide +kernel
theorem dX4_functionNow_73 : decode cX4_functionNow 73 = .ok (.iaload, 1) := by decide +kernel
theorem dX4_functionNow_74 : decode cX4_functionNow 74 = .ok (.aload_n 3, 1) := by decide +kernel
theorem dX4_functionNow_75 : decode cX4_functionNow 75 = .ok (.iconst 0, 1) := by decide +kernel
theorem dX4_functionNow_76 : decode cX4_functionNow 76 = .ok (.sipush 201, 3) := by decide +kernel
theorem dX4_functionNow_79 : decode cX4_functionNow 79 = .ok (.invokestatic 119, 3) := by decide +kernel
theorem dX4_functionNow_82 : decode cX4_functionNow 82 = .ok (.if_icmp .ge 9, 3) := by decide +kernel
theorem dX4_functionNow_85 : decode cX4_functionNow 85 = .ok (.iinc 4 1, 3) := by decide +kernel
theorem dX4_functionNow_88 : decode cX4_functionNow 88 = .ok (.goto (-18), 3) := by decide +kernel
theorem dX4_functionNow_91 : decode cX4_functionNow 91 = .ok (.iload 4, 2) := by decide +kernel
theorem dX4_functionNow_93 : decode cX4_functionNow 93 = .ok (.ireturn, 1) := by decide +kernel
theorem dX4_functionNow_94 : decode cX4_functionNow 94 = .ok (.aload_n 3, 1) := by decide +kernel
theorem dX4_functionNow_95 : decode cX4_functionNow 95 = .ok (.iconst 0, 1) := by decide +kernel
theorem dX4_functionNow_96 : decode cX4_functionNow 96 = .ok (.sipush 201, 3) := by decide +kernel
theorem dX4_functionNow_99 : decode cX4_functionNow 99 = .ok (.invokestatic 130, 3) := by decide +kernel
theorem dX4_functionNow_102 : decode cX4_functionNow 102 = .ok (.ireturn, 1) := by decide +kernel
set_option maxRecDepth 20000 in
theorem ggX4_ofFunction_X4_isFunction : GoodIn wsX4_ofFunction wsX4_isFunction := goodIn_r _ [5, 6, 7, 4, 8] (by decide +kernel) (by decide +kernel)
set_option maxRecDepth 20000 in
theorem gX4_ofFunction_X4_isFunction : GoodIn wsX4_ofFunction (va_wsS RX4 102 yX4_isFunction wsX4_isFunction) := goodIn_app (goodIn_of _ (by decide +kernel)) ggX4_ofFunction_X4_isFunction
set_option maxRecDepth 20000 in
theorem ggX4_ofFunction_X4_no : GoodIn wsX4_ofFunction wsX4_no := goodIn_r _ [12, 1, 35, 36, 37] (by decide +kernel) (by decide +kernel)
set_option maxRecDepth 20000 in
theorem gX4_ofFunction_X4_no : GoodIn wsX4_ofFunction (wsV RX4 51 RX4 yX4_no wsX4_no) := goodIn_app (goodIn_of _ (by decide +kernel)) ggX4_ofFunction_X4_no
set_option maxRecDepth 20000 in
theorem ggX4_ofFunction_X4_isIn : GoodIn wsX4_ofFunction wsX4_isIn := goodIn_r _ [8] (by decide +kernel) (by decide +kernel)
set_option maxRecDepth 20000 in
theorem gX4_ofFunction_X4_isIn : GoodIn wsX4_ofFunction (va_wsS RX4 23 yX4_isIn wsX4_isIn) := goodIn_app (goodIn_of _ (by decide +kernel)) ggX4_ofFunction_X4_isIn
set_option maxRecDepth 20000 in
theorem ggX4_ofFunction_X4_functionNow : GoodIn wsX4_ofFunction wsX4_functionNow := goodIn_r _ [16, 17, 18, 19, 4, 20, 21, 22, 23, 24, 25, 26, 27, 28, 29, 30, 31, 32, 33, 34, 35, 36, 37] (by decide +kernel) (by decide +kernel)
set_option maxRecDepth 20000 in
theorem gX4_ofFunction_X4_functionNow : GoodIn wsX4_ofFunction (wsV RX4 133 RX4 yX4_functionNow wsX4_functionNow) := goodIn_app (goodIn_of _ (by decide +kernel)) ggX4_ofFunction_X4_functionNow
theorem dX4_ofFunction_0 : decode cX4_ofFunction 0 = .ok (.aload_n 0, 1) := by decide +kernel
theorem dX4_ofFunction_1 : decode cX4_ofFunction 1 = .ok (.iconst 0, 1) := by decide +kernel
theorem dX4_ofFunction_2 : decode cX4_ofFunction 2 = .ok (.putfield 19, 3) := by decide +kernel
theorem dX4_ofFunction_5 : decode cX4_ofFunction 5 = .ok (.iload_n 1, 1) := by decide +kernel
theorem dX4_ofFunction_6 : decode cX4_ofFunction 6 = .ok (.invokestatic 102, 3) := by decide +kernel
theorem dX4_ofFunction_9 : decode cX4_ofFunction 9 = .ok (.ifCond .ne 9, 3) := by decide +kernel
theorem dX4_ofFunction_12 : decode cX4_ofFunction 12 = .ok (.aload_n 0, 1) := by decide +kernel
theorem dX4_ofFunction_13 : decode cX4_ofFunction 13 = .ok (.iconst 1, 1) := by decide +kernel
theorem dX4_ofFunction_14 : decode cX4_ofFunction 14 = .ok (.invokevirtual 51, 3) := by decide +kernel
theorem dX4_ofFunction_17 : decode cX4_ofFunction 17 = .ok (.ireturn, 1) := by decide +kernel
theorem dX4_ofFunction_18 : decode cX4_ofFunction 18 = .ok (.iload_n 2, 1) := by decide +kernel
theorem dX4_ofFunction_19 : decode cX4_ofFunction 19 = .ok (.iconst 0, 1) := by decide +kernel
theorem dX4_ofFunction_20 : decode cX4_ofFunction 20 = .ok (.iconst 4, 1) := by decide +kernel
theorem dX4_ofFunction_21 : decode cX4_ofFunction 21 = .ok (.invokestatic 23, 3) := by decide +kernel
theorem dX4_ofFunction_24 : decode cX4_ofFunction 24 = .ok (.ifCond .eq 12, 3) := by decide +kernel
theorem dX4_ofFunction_27 : decode cX4_ofFunction 27 = .ok (.aload_n 0, 1) := by decide +kernel
theorem dX4_ofFunction_28 : decode cX4_ofFunction 28 = .ok (.iload_n 1, 1) := by decide +kernel
theorem dX4_ofFunction_29 : decode cX4_ofFunction 29 = .ok (.iload_n 2, 1) := by decide +kernel
theorem dX4_ofFunction_30 : decode cX4_ofFunction 30 = .ok (.invokevirtual 133, 3) := by decide +kernel
theorem dX4_ofFunction_33 : decode cX4_ofFunction 33 = .ok (.goto 8, 3) := by decide +kernel
theorem dX4_ofFunction_36 : decode cX4_ofFunction 36 = .ok (.aload_n 0, 1) := by decide +kernel
theorem dX4_ofFunction_37 : decode cX4_ofFunction 37 = .ok (.iconst 2, 1) := by decide +kernel
theorem dX4_ofFunction_38 : decode cX4_ofFunction 38 = .ok (.invokevirtual 51, 3) := by decide +kernel
theorem dX4_ofFunction_41 : decode cX4_ofFunction 41 = .ok (.ireturn, 1) := by decide +kernel
set_option maxRecDepth 20000 in
theorem ggX4_value_X4_isFunction : GoodIn wsX4_value wsX4_isFunction := goodIn_r _ [6, 7, 8, 5, 9] (by decide +kernel) (by decide +kernel)
set_option maxRecDepth 20000 in
theorem gX4_value_X4_isFunction : GoodIn wsX4_value (va_wsS RX4 102 yX4_isFunction wsX4_isFunction) := goodIn_app (goodIn_of _ (by decide +kernel)) ggX4_value_X4_isFunction
set_option maxRecDepth 20000 in
theorem ggX4_value_X4_isIn : GoodIn wsX4_value wsX4_isIn := goodIn_r _ [9] (by decide +kernel) (by decide +kernel)
set_option maxRecDepth 20000 in
theorem gX4_value_X4_isIn : GoodIn wsX4_value (va_wsS RX4 23 yX4_isIn wsX4_isIn) := goodIn_app (goodIn_of _ (by decide +kernel)) ggX4_value_X4_isIn
set_option maxRecDepth 20000 in
theorem ggX4_value_X4_no : GoodIn wsX4_value wsX4_no := goodIn_r _ [13, 1, 14, 15, 16] (by decide +kernel) (by decide +kernel)
set_option maxRecDepth 20000 in
theorem gX4_value_X4_no : GoodIn wsX4_value (wsV RX4 51 RX4 yX4_no wsX4_no) := goodIn_app (goodIn_of _ (by decide +kernel)) ggX4_value_X4_no
theorem dX4_value_0 : decode cX4_value 0 = .ok (.aload_n 0, 1) := by decide +kernel
theorem dX4_value_1 : decode cX4_value 1 = .ok (.iconst 0, 1) := by decide +kernel
theorem dX4_value_2 : decode cX4_value 2 = .ok (.putfield 19, 3) := by decide +kernel
theorem dX4_value_5 : decode cX4_value 5 = .ok (.iload_n 1, 1) := by decide +kernel
theorem dX4_value_6 : decode cX4_value 6 = .ok (.invokestatic 102, 3) := by decide +kernel
theorem dX4_value_9 : decode cX4_value 9 = .ok (.ifCond .eq 25, 3) := by decide +kernel
theorem dX4_value_12 : decode cX4_value 12 = .ok (.iload_n 2, 1) := by decide +kernel
theorem dX4_value_13 : decode cX4_value 13 = .ok (.iconst 0, 1) := by decide +kernel
theorem dX4_value_14 : decode cX4_value 14 = .ok (.sipush 200, 3) := by decide +kernel
theorem dX4_value_17 : decode cX4_value 17 = .ok (.invokestatic 23, 3) := by decide +kernel
theorem dX4_value_20 : decode cX4_value 20 = .ok (.ifCond .eq 14, 3) := by decide +kernel
theorem dX4_value_23 : decode cX4_value 23 = .ok (.aload_n 0, 1) := by decide +kernel
theorem dX4_value_24 : decode cX4_value 24 = .ok (.getfield 16, 3) := by decide +kernel
theorem dX4_value_27 : decode cX4_value 27 = .ok (.iload_n 1, 1) := by decide +kernel
theorem dX4_value_28 : decode cX4_value 28 = .ok (.aaload, 1) := by decide +kernel
theorem dX4_value_29 : decode cX4_value 29 = .ok (.iload_n 2, 1) := by decide +kernel
theorem dX4_value_30 : decode cX4_value 30 = .ok (.iaload, 1) := by decide +kernel
theorem dX4_value_31 : decode cX4_value 31 = .ok (.goto 8, 3) := by decide +kernel
theorem dX4_value_34 : decode cX4_value 34 = .ok (.aload_n 0, 1) := by decide +kernel
theorem dX4_value_35 : decode cX4_value 35 = .ok (.iconst 1, 1) := by decide +kernel
theorem dX4_value_36 : decode cX4_value 36 = .ok (.invokevirtual 51, 3) := by decide +kernel
theorem dX4_value_39 : decode cX4_value 39 = .ok (.ireturn, 1) := by decide +kernel
theorem dX4_areaNow_0 : decode cX4_areaNow 0 = .ok (.iconst 0, 1) := by decide +kernel
theorem dX4_areaNow_1 : decode cX4_areaNow 1 = .ok (.istore_n 3, 1) := by decide +kernel
theorem dX4_areaNow_2 : decode cX4_areaNow 2 = .ok (.iconst 1, 1) := by decide +kernel
theorem dX4_areaNow_3 : decode cX4_areaNow 3 = .ok (.istore 4, 2) := by decide +kernel
theorem dX4_areaNow_5 : decode cX4_areaNow 5 = .ok (.iload 4, 2) := by decide +kernel
theorem dX4_areaNow_7 : decode cX4_areaNow 7 = .ok (.sipush 201, 3) := by decide +kernel
theorem dX4_areaNow_10 : decode cX4_areaNow 10 = .ok (.if_icmp .ge 37, 3) := by decide +kernel
theorem dX4_areaNow_13 : decode cX4_areaNow 13 = .ok (.iload_n 3, 1) := by decide +kernel
theorem dX4_areaNow_14 : decode cX4_areaNow 14 = .ok (.aload_n 0, 1) := by decide +kernel
theorem dX4_areaNow_15 : decode cX4_areaNow 15 = .ok (.getfield 11, 3) := by decide +kernel
theorem dX4_areaNow_18 : decode cX4_areaNow 18 = .ok (.iload_n 2, 1) := by decide +kernel
theorem dX4_areaNow_19 : decode cX4_areaNow 19 = .ok (.aaload, 1) := by decide +kernel
theorem dX4_areaNow_20 : decode cX4_areaNow 20 = .ok (.iload 4, 2) := by decide +kernel
theorem dX4_areaNow_22 : decode cX4_areaNow 22 = .ok (.baload, 1) := by decide +kernel
theorem dX4_areaNow_23 : decode cX4_areaNow 23 = .ok (.ifCond .eq 15, 3) := by decide +kernel
theorem dX4_areaNow_26 : decode cX4_areaNow 26 = .ok (.aload_n 0, 1) := by decide +kernel
theorem dX4_areaNow_27 : decode cX4_areaNow 27 = .ok (.getfield 16, 3) := by decide +kernel
theorem dX4_areaNow_30 : decode cX4_areaNow 30 = .ok (.iload_n 1, 1) := by decide +kernel
theorem dX4_areaNow_31 : decode cX4_areaNow 31 = .ok (.aaload, 1) := by decide +kernel
theorem dX4_areaNow_32 : decode cX4_areaNow 32 = .ok (.iload 4, 2) := by decide +kernel
theorem dX4_areaNow_34 : decode cX4_areaNow 34 = .ok (.iaload, 1) := by decide +kernel
theorem dX4_areaNow_35 : decode cX4_areaNow 35 = .ok (.goto 4, 3) := by decide +kernel
theorem dX4_areaNow_38 : decode cX4_areaNow 38 = .ok (.iconst 0, 1) := by decide +kernel
theorem dX4_areaNow_39 : decode cX4_areaNow 39 = .ok (.iadd, 1) := by decide +kernel
theorem dX4_areaNow_40 : decode cX4_areaNow 40 = .ok (.istore_n 3, 1) := by decide +kernel
theorem dX4_areaNow_41 : decode cX4_areaNow 41 = .ok (.iinc 4 2, 3) := by decide +kernel
theorem dX4_areaNow_44 : decode cX4_areaNow 44 = .ok (.goto (-39), 3) := by decide +kernel
theorem dX4_areaNow_47 : decode cX4_areaNow 47 = .ok (.iload_n 3, 1) := by decide +kernel
theorem dX4_areaNow_48 : decode cX4_areaNow 48 = .ok (.ireturn, 1) := by decide +kernel
set_option maxRecDepth 20000 in
theorem ggX4_area_X4_isFunction : GoodIn wsX4_area wsX4_isFunction := goodIn_r _ [5, 6, 7, 4, 8] (by decide +kernel) (by decide +kernel)
set_option maxRecDepth 20000 in
theorem gX4_area_X4_isFunction : GoodIn wsX4_area (va_wsS RX4 102 yX4_isFunction wsX4_isFunction) := goodIn_app (goodIn_of _ (by decide +kernel)) ggX4_area_X4_isFunction
set_option maxRecDepth 20000 in
theorem ggX4_area_X4_isSet : GoodIn wsX4_area wsX4_isSet := goodIn_r _ [11, 6, 7, 4, 8] (by decide +kernel) (by decide +kernel)
set_option maxRecDepth 20000 in
theorem gX4_area_X4_isSet : GoodIn wsX4_area (va_wsS RX4 47 yX4_isSet wsX4_isSet) := goodIn_app (goodIn_of _ (by decide +kernel)) ggX4_area_X4_isSet
set_option maxRecDepth 20000 in
theorem ggX4_area_X4_areaNow : GoodIn wsX4_area wsX4_areaNow := goodIn_r _ [15, 16, 17, 22, 23, 24] (by decide +kernel) (by decide +kernel)
set_option maxRecDepth 20000 in
theorem gX4_area_X4_areaNow : GoodIn wsX4_area (wsV RX4 136 RX4 yX4_areaNow wsX4_areaNow) := goodIn_app (goodIn_of _ (by decide +kernel)) ggX4_area_X4_areaNow
set_option maxRecDepth 20000 in
theorem ggX4_area_X4_no : GoodIn wsX4_area wsX4_no := goodIn_r _ [21, 1, 22, 23, 24] (by decide +kernel) (by decide +kernel)
set_option maxRecDepth 20000 in
theorem gX4_area_X4_no : GoodIn wsX4_area (wsV RX4 51 RX4 yX4_no wsX4_no) := goodIn_app (goodIn_of _ (by decide +kernel)) ggX4_area_X4_no
theorem dX4_area_0 : decode cX4_area 0 = .ok (.aload_n 0, 1) := by decide +kernel
theorem dX4_area_1 : decode cX4_area 1 = .ok (.iconst 0, 1) := by decide +kernel
theorem dX4_area_2 : decode cX4_area 2 = .ok (.putfield 19, 3) := by decide +kernel
theorem dX4_area_5 : decode cX4_area 5 = .ok (.iload_n 1, 1) := by decide +kernel
theorem dX4_area_6 : decode cX4_area 6 = .ok (.invokestatic 102, 3) := by decide +kernel
theorem dX4_area_9 : decode cX4_area 9 = .ok (.ifCond .eq 19, 3) := by decide +kernel
theorem dX4_area_12 : decode cX4_area 12 = .ok (.iload_n 2, 1) := by decide +kernel
theorem dX4_area_13 : decode cX4_area 13 = .ok (.invokestatic 47, 3) := by decide +kernel
theorem dX4_area_16 : decode cX4_area 16 = .ok (.ifCond .eq 12, 3) := by decide +kernel
theorem dX4_area_19 : decode cX4_area 19 = .ok (.aload_n 0, 1) := by decide +kernel
theorem dX4_area_20 : decode cX4_area 20 = .ok (.iload_n 1, 1) := by decide +kernel
theorem dX4_area_21 : decode cX4_area 21 = .ok (.iload_n 2, 1) := by decide +kernel
theorem dX4_area_22 : decode cX4_area 22 = .ok (.invokevirtual 136, 3) := by decide +kernel
theorem dX4_area_25 : decode cX4_area 25 = .ok (.goto 8, 3) := by decide +kernel
theorem dX4_area_28 : decode cX4_area 28 = .ok (.aload_n 0, 1) := by decide +kernel
theorem dX4_area_29 : decode cX4_area 29 = .ok (.iconst 1, 1) := by decide +kernel
theorem dX4_area_30 : decode cX4_area 30 = .ok (.invokevirtual 51, 3) := by decide +kernel
theorem dX4_area_33 : decode cX4_area 33 = .ok (.ireturn, 1) := by decide +kernel
set_option maxRecDepth 20000 in
theorem ggX4_mean_X4_isFunction : GoodIn wsX4_mean wsX4_isFunction := goodIn_r _ [6, 7, 8, 5, 9] (by decide +kernel) (by decide +kernel)
set_option maxRecDepth 20000 in
theorem gX4_mean_X4_isFunction : GoodIn wsX4_mean (va_wsS RX4 102 yX4_isFunction wsX4_isFunction) := goodIn_app (goodIn_of _ (by decide +kernel)) ggX4_mean_X4_isFunction
set_option maxRecDepth 20000 in
theorem ggX4_mean_X4_isSet : GoodIn wsX4_mean wsX4_isSet := goodIn_r _ [12, 7, 8, 5, 9] (by decide +kernel) (by decide +kernel)
set_option maxRecDepth 20000 in
theorem gX4_mean_X4_isSet : GoodIn wsX4_mean (va_wsS RX4 47 yX4_isSet wsX4_isSet) := goodIn_app (goodIn_of _ (by decide +kernel)) ggX4_mean_X4_isSet
set_option maxRecDepth 20000 in
theorem ggX4_mean_X4_longOf_ : GoodIn wsX4_mean wsX4_longOf_ := goodIn_r _ [15] (by decide +kernel) (by decide +kernel)
set_option maxRecDepth 20000 in
theorem gX4_mean_X4_longOf_ : GoodIn wsX4_mean (va_wsS RX4 79 yX4_longOf_ wsX4_longOf_) := goodIn_app (goodIn_of _ (by decide +kernel)) ggX4_mean_X4_longOf_
set_option maxRecDepth 20000 in
theorem ggX4_mean_X4_areaNow : GoodIn wsX4_mean wsX4_areaNow := goodIn_r _ [19, 2, 20, 21, 22, 23] (by decide +kernel) (by decide +kernel)
set_option maxRecDepth 20000 in
theorem gX4_mean_X4_areaNow : GoodIn wsX4_mean (wsV RX4 136 RX4 yX4_areaNow wsX4_areaNow) := goodIn_app (goodIn_of _ (by decide +kernel)) ggX4_mean_X4_areaNow
theorem dX4_mean_0 : decode cX4_mean 0 = .ok (.aload_n 0, 1) := by decide +kernel
theorem dX4_mean_1 : decode cX4_mean 1 = .ok (.iload_n 1, 1) := by decide +kernel
theorem dX4_mean_2 : decode cX4_mean 2 = .ok (.invokestatic 102, 3) := by decide +kernel
theorem dX4_mean_5 : decode cX4_mean 5 = .ok (.ifCond .eq 14, 3) := by decide +kernel
theorem dX4_mean_8 : decode cX4_mean 8 = .ok (.iload_n 2, 1) := by decide +kernel
theorem dX4_mean_9 : decode cX4_mean 9 = .ok (.invokestatic 47, 3) := by decide +kernel
theorem dX4_mean_12 : decode cX4_mean 12 = .ok (.ifCond .eq 7, 3) := by decide +kernel
theorem dX4_mean_15 : decode cX4_mean 15 = .ok (.iconst 0, 1) := by decide +kernel
theorem dX4_mean_16 : decode cX4_mean 16 = .ok (.goto 4, 3) := by decide +kernel
theorem dX4_mean_19 : decode cX4_mean 19 = .ok (.iconst 1, 1) := by decide +kernel
theorem dX4_mean_20 : decode cX4_mean 20 = .ok (.putfield 19, 3) := by decide +kernel
theorem dX4_mean_23 : decode cX4_mean 23 = .ok (.aload_n 0, 1) := by decide +kernel
theorem dX4_mean_24 : decode cX4_mean 24 = .ok (.getfield 19, 3) := by decide +kernel
theorem dX4_mean_27 : decode cX4_mean 27 = .ok (.ifCond .ne 15, 3) := by decide +kernel
theorem dX4_mean_30 : decode cX4_mean 30 = .ok (.aload_n 0, 1) := by decide +kernel
theorem dX4_mean_31 : decode cX4_mean 31 = .ok (.getfield 11, 3) := by decide +kernel
theorem dX4_mean_34 : decode cX4_mean 34 = .ok (.iload_n 2, 1) := by decide +kernel
theorem dX4_mean_35 : decode cX4_mean 35 = .ok (.aaload, 1) := by decide +kernel
theorem dX4_mean_36 : decode cX4_mean 36 = .ok (.invokestatic 79, 3) := by decide +kernel
theorem dX4_mean_39 : decode cX4_mean 39 = .ok (.ifCond .ne 7, 3) := by decide +kernel
theorem dX4_mean_42 : decode cX4_mean 42 = .ok (.dconst 0, 1) := by decide +kernel
theorem dX4_mean_43 : decode cX4_mean 43 = .ok (.goto 21, 3) := by decide +kernel
theorem dX4_mean_46 : decode cX4_mean 46 = .ok (.aload_n 0, 1) := by decide +kernel
theorem dX4_mean_47 : decode cX4_mean 47 = .ok (.iload_n 1, 1) := by decide +kernel
theorem dX4_mean_48 : decode cX4_mean 48 = .ok (.iload_n 2, 1) := by decide +kernel
theorem dX4_mean_49 : decode cX4_mean 49 = .ok (.invokevirtual 136, 3) := by decide +kernel
theorem dX4_mean_52 : decode cX4_mean 52 = .ok (.i2d, 1) := by decide +kernel
theorem dX4_mean_53 : decode cX4_mean 53 = .ok (.aload_n 0, 1) := by decide +kernel
theorem dX4_mean_54 : decode cX4_mean 54 = .ok (.getfield 11, 3) := by decide +kernel
theorem dX4_mean_57 : decode cX4_mean 57 = .ok (.iload_n 2, 1) := by decide +kernel
theorem dX4_mean_58 : decode cX4_mean 58 = .ok (.aaload, 1) := by decide +kernel
theorem dX4_mean_59 : decode cX4_mean 59 = .ok (.invokestatic 79, 3) := by decide +kernel
theorem dX4_mean_62 : decode cX4_mean 62 = .ok (.i2d, 1) := by decide +kernel
theorem dX4_mean_63 : decode cX4_mean 63 = .ok (.ddiv, 1) := by decide +kernel
theorem dX4_mean_64 : decode cX4_mean 64 = .ok (.dreturn, 1) := by decide +kernel
set_option maxRecDepth 20000 in
theorem ggX4_thickerNow_X4_thickness : GoodIn wsX4_thickerNow wsX4_thickness := goodIn_r _ [5, 6, 7, 8, 9] (by decide +kernel) (by decide +kernel)
set_option maxRecDepth 20000 in
theorem gX4_thickerNow_X4_thickness : GoodIn wsX4_thickerNow (wsV RX4 127 RX4 yX4_thickness wsX4_thickness) := goodIn_app (goodIn_of _ (by decide +kernel)) ggX4_thickerNow_X4_thickness
theorem dX4_thickerNow_0 : decode cX4_thickerNow 0 = .ok (.iconst 0, 1) := by decide +kernel
theorem dX4_thickerNow_1 : decode cX4_thickerNow 1 = .ok (.istore_n 3, 1) := by decide +kernel
theorem dX4_thickerNow_2 : decode cX4_thickerNow 2 = .ok (.iconst 0, 1) := by decide +kernel
theorem dX4_thickerNow_3 : decode cX4_thickerNow 3 = .ok (.istore 4, 2) := by decide +kernel
theorem dX4_thickerNow_5 : decode cX4_thickerNow 5 = .ok (.iload 4, 2) := by decide +kernel
theorem dX4_thickerNow_7 : decode cX4_thickerNow 7 = .ok (.sipush 201, 3) := by decide +kernel
theorem dX4_thickerNow_10 : decode cX4_thickerNow 10 = .ok (.if_icmp .ge 28, 3) := by decide +kernel
theorem dX4_thickerNow_13 : decode cX4_thickerNow 13 = .ok (.iload_n 3, 1) := by decide +kernel
theorem dX4_thickerNow_14 : decode cX4_thickerNow 14 = .ok (.aload_n 0, 1) := by decide +kernel
theorem dX4_thickerNow_15 : decode cX4_thickerNow 15 = .ok (.iload_n 1, 1) := by decide +kernel
theorem dX4_thickerNow_16 : decode cX4_thickerNow 16 = .ok (.iload 4, 2) := by decide +kernel
theorem dX4_thickerNow_18 : decode cX4_thickerNow 18 = .ok (.invokevirtual 127, 3) := by decide +kernel
theorem dX4_thickerNow_21 : decode cX4_thickerNow 21 = .ok (.iload_n 2, 1) := by decide +kernel
theorem dX4_thickerNow_22 : decode cX4_thickerNow 22 = .ok (.if_icmp .lt 7, 3) := by decide +kernel
theorem dX4_thickerNow_25 : decode cX4_thickerNow 25 = .ok (.iconst 1, 1) := by decide +kernel
theorem dX4_thickerNow_26 : decode cX4_thickerNow 26 = .ok (.goto 4, 3) := by decide +kernel
theorem dX4_thickerNow_29 : decode cX4_thickerNow 29 = .ok (.iconst 0, 1) := by decide +kernel
theorem dX4_thickerNow_30 : decode cX4_thickerNow 30 = .ok (.iadd, 1) := by decide +kernel
theorem dX4_thickerNow_31 : decode cX4_thickerNow 31 = .ok (.istore_n 3, 1) := by decide +kernel
theorem dX4_thickerNow_32 : decode cX4_thickerNow 32 = .ok (.iinc 4 1, 3) := by decide +kernel
theorem dX4_thickerNow_35 : decode cX4_thickerNow 35 = .ok (.goto (-30), 3) := by decide +kernel
theorem dX4_thickerNow_38 : decode cX4_thickerNow 38 = .ok (.iload_n 3, 1) := by decide +kernel
theorem dX4_thickerNow_39 : decode cX4_thickerNow 39 = .ok (.ireturn, 1) := by decide +kernel
set_option maxRecDepth 20000 in
theorem ggX4_thicker_X4_isIn : GoodIn wsX4_thicker wsX4_isIn := goodIn_r _ [5] (by decide +kernel) (by decide +kernel)
set_option maxRecDepth 20000 in
theorem gX4_thicker_X4_isIn : GoodIn wsX4_thicker (va_wsS RX4 23 yX4_isIn wsX4_isIn) := goodIn_app (goodIn_of _ (by decide +kernel)) ggX4_thicker_X4_isIn
set_option maxRecDepth 20000 in
theorem ggX4_thicker_X4_thickerNow : GoodIn wsX4_thicker wsX4_thickerNow := goodIn_r _ [9, 10, 11, 12, 4, 13, 14, 19, 20, 21] (by decide +kernel) (by decide +kernel)
set_option maxRecDepth 20000 in
theorem gX4_thicker_X4_thickerNow : GoodIn wsX4_thicker (wsV RX4 139 RX4 yX4_thickerNow wsX4_thickerNow) := goodIn_app (goodIn_of _ (by decide +kernel)) ggX4_thicker_X4_thickerNow
set_option maxRecDepth 20000 in
theorem ggX4_thicker_X4_no : GoodIn wsX4_thicker wsX4_no := goodIn_r _ [18, 1, 19, 20, 21] (by decide +kernel) (by decide +kernel)
set_option maxRecDepth 20000 in
theorem gX4_thicker_X4_no : GoodIn wsX4_thicker (wsV RX4 51 RX4 yX4_no wsX4_no) := goodIn_app (goodIn_of _ (by decide +kernel)) ggX4_thicker_X4_no
theorem dX4_thicker_0 : decode cX4_thicker 0 = .ok (.aload_n 0, 1) := by decide +kernel
theorem dX4_thicker_1 : decode cX4_thicker 1 = .ok (.iconst 0, 1) := by decide +kernel
theorem dX4_thicker_2 : decode cX4_thicker 2 = .ok (.putfield 19, 3) := by decide +kernel
theorem dX4_thicker_5 : decode cX4_thicker 5 = .ok (.iload_n 1, 1) := by decide +kernel
theorem dX4_thicker_6 : decode cX4_thicker 6 = .ok (.iconst 0, 1) := by decide +kernel
theorem dX4_thicker_7 : decode cX4_thicker 7 = .ok (.sipush 255, 3) := by decide +kernel
theorem dX4_thicker_10 : decode cX4_thicker 10 = .ok (.invokestatic 23, 3) := by decide +kernel
theorem dX4_thicker_13 : decode cX4_thicker 13 = .ok (.ifCond .eq 12, 3) := by decide +kernel
theorem dX4_thicker_16 : decode cX4_thicker 16 = .ok (.aload_n 0, 1) := by decide +kernel
theorem dX4_thicker_17 : decode cX4_thicker 17 = .ok (.iload_n 1, 1) := by decide +kernel
theorem dX4_thicker_18 : decode cX4_thicker 18 = .ok (.iload_n 2, 1) := by decide +kernel
theorem dX4_thicker_19 : decode cX4_thicker 19 = .ok (.invokevirtual 139, 3) := by decide +kernel
theorem dX4_thicker_22 : decode cX4_thicker 22 = .ok (.goto 8, 3) := by decide +kernel
theorem dX4_thicker_25 : decode cX4_thicker 25 = .ok (.aload_n 0, 1) := by decide +kernel
theorem dX4_thicker_26 : decode cX4_thicker 26 = .ok (.iconst 1, 1) := by decide +kernel
theorem dX4_thicker_27 : decode cX4_thicker 27 = .ok (.invokevirtual 51, 3) := by decide +kernel
theorem dX4_thicker_30 : decode cX4_thicker 30 = .ok (.ireturn, 1) := by decide +kernel
set_option maxRecDepth 20000 in
theorem ggX4_coverNow_X4_first : GoodIn wsX4_coverNow wsX4_first := goodIn_r _ [10] (by decide +kernel) (by decide +kernel)
set_option maxRecDepth 20000 in
theorem gX4_coverNow_X4_first : GoodIn wsX4_coverNow (va_wsS RX4 27 yX4_first wsX4_first) := goodIn_app (goodIn_of _ (by decide +kernel)) ggX4_coverNow_X4_first
theorem dX4_coverNow_0 : decode cX4_coverNow 0 = .ok (.sipush 201, 3) := by decide +kernel
theorem dX4_coverNow_3 : decode cX4_coverNow 3 = .ok (.newarray .int, 2) := by decide +kernel
theorem dX4_coverNow_5 : decode cX4_coverNow 5 = .ok (.astore_n 3, 1) := by decide +kernel
theorem dX4_coverNow_6 : decode cX4_coverNow 6 = .ok (.iconst 0, 1) := by decide +kernel
theorem dX4_coverNow_7 : decode cX4_coverNow 7 = .ok (.istore 4, 2) := by decide +kernel
theorem dX4_coverNow_9 : decode cX4_coverNow 9 = .ok (.iconst 0, 1) := by decide +kernel
theorem dX4_coverNow_10 : decode cX4_coverNow 10 = .ok (.istore 5, 2) := by decide +kernel
theorem dX4_coverNow_12 : decode cX4_coverNow 12 = .ok (.aload_n 0, 1) := by decide +kernel
theorem dX4_coverNow_13 : decode cX4_coverNow 13 = .ok (.getfield 11, 3) := by decide +kernel
theorem dX4_coverNow_16 : decode cX4_coverNow 16 = .ok (.iload_n 2, 1) := by decide +kernel
theorem dX4_coverNow_17 : decode cX4_coverNow 17 = .ok (.aaload, 1) := by decide +kernel
theorem dX4_coverNow_18 : decode cX4_coverNow 18 = .ok (.iconst 0, 1) := by decide +kernel
theorem dX4_coverNow_19 : decode cX4_coverNow 19 = .ok (.iconst 1, 1) := by decide +kernel
theorem dX4_coverNow_20 : decode cX4_coverNow 20 = .ok (.invokestatic 27, 3) := by decide +kernel
theorem dX4_coverNow_23 : decode cX4_coverNow 23 = .ok (.istore 6, 2) := by decide +kernel
theorem dX4_coverNow_25 : decode cX4_coverNow 25 = .ok (.iload 6, 2) := by decide +kernel
theorem dX4_coverNow_27 : decode cX4_coverNow 27 = .ok (.sipush 201, 3) := by decide +kernel
theorem dX4_coverNow_30 : decode cX4_coverNow 30 = .ok (.if_icmp .ge 132, 3) := by decide +kernel
theorem dX4_coverNow_33 : decode cX4_coverNow 33 = .ok (.iconst (-1), 1) := by decide +kernel
theorem dX4_coverNow_34 : decode cX4_coverNow 34 = .ok (.istore 7, 2) := by decide +kernel
theorem dX4_coverNow_36 : decode cX4_coverNow 36 = .ok (.iload 6, 2) := by decide +kernel
theorem dX4_coverNow_38 : decode cX4_coverNow 38 = .ok (.istore 8, 2) := by decide +kernel
theorem dX4_coverNow_40 : decode cX4_coverNow 40 = .ok (.iconst 0, 1) := by decide +kernel
theorem dX4_coverNow_41 : decode cX4_coverNow 41 = .ok (.istore 9, 2) := by decide +kernel
theorem dX4_coverNow_43 : decode cX4_coverNow 43 = .ok (.iload 9, 2) := by decide +kernel
theorem dX4_coverNow_45 : decode cX4_coverNow 45 = .ok (.bipush 8, 2) := by decide +kernel
theorem dX4_coverNow_47 : decode cX4_coverNow 47 = .ok (.if_icmp .ge 67, 3) := by decide +kernel
theorem dX4_coverNow_50 : decode cX4_coverNow 50 = .ok (.iload_n 1, 1) := by decide +kernel
theorem dX4_coverNow_51 : decode cX4_coverNow 51 = .ok (.iload 9, 2) := by decide +kernel
theorem dX4_coverNow_53 : decode cX4_coverNow 53 = .ok (.ishr, 1) := by decide +kernel
theorem dX4_coverNow_54 : decode cX4_coverNow 54 = .ok (.iconst 1, 1) := by decide +kernel
theorem dX4_coverNow_55 : decode cX4_coverNow 55 = .ok (.iand, 1) := by decide +kernel
theorem dX4_coverNow_56 : decode cX4_coverNow 56 = .ok (.ifCond .eq 52, 3) := by decide +kernel
theorem dX4_coverNow_59 : decode cX4_coverNow 59 = .ok (.aload_n 0, 1) := by decide +kernel
theorem dX4_coverNow_60 : decode cX4_coverNow 60 = .ok (.getfield 11, 3) := by decide +kernel
theorem dX4_coverNow_63 : decode cX4_coverNow 63 = .ok (.iload 9, 2) := by decide +kernel
theorem dX4_coverNow_65 : decode cX4_coverNow 65 = .ok (.aaload, 1) := by decide +kernel
theorem dX4_coverNow_66 : decode cX4_coverNow 66 = .ok (.iload 6, 2) := by decide +kernel
theorem dX4_coverNow_68 : decode cX4_coverNow 68 = .ok (.baload, 1) := by decide +kernel
theorem dX4_coverNow_69 : decode cX4_coverNow 69 = .ok (.ifCond .ne 6, 3) := by decide +kernel
theorem dX4_coverNow_72 : decode cX4_coverNow 72 = .ok (.goto 36, 3) := by decide +kernel
theorem dX4_coverNow_75 : decode cX4_coverNow 75 = .ok (.aload_n 0, 1) := by decide +kernel
theorem dX4_coverNow_76 : decode cX4_coverNow 76 = .ok (.getfield 11, 3) := by decide +kernel
theorem dX4_coverNow_79 : decode cX4_coverNow 79 = .ok (.iload 9, 2) := by decide +kernel
theorem dX4_coverNow_81 : decode cX4_coverNow 81 = .ok (.aaload, 1) := by decide +kernel
theorem dX4_coverNow_82 : decode cX4_coverNow 82 = .ok (.iload 6, 2) := by decide +kernel
theorem dX4_coverNow_84 : decode cX4_coverNow 84 = .ok (.iconst 0, 1) := by decide +kernel
theorem dX4_coverNow_85 : decode cX4_coverNow 85 = .ok (.invokestatic 27, 3) := by decide +kernel
theorem dX4_coverNow_88 : decode cX4_coverNow 88 = .ok (.istore 10, 2) := by decide +kernel
theorem dX4_coverNow_90 : decode cX4_coverNow 90 = .ok (.iload 10, 2) := by decide +kernel
theorem dX4_coverNow_92 : decode cX4_coverNow 92 = .ok (.iload 8, 2) := by decide +kernel
theorem dX4_coverNow_94 : decode cX4_coverNow 94 = .ok (.if_icmp .gt 6, 3) := by decide +kernel
theorem dX4_coverNow_97 : decode cX4_coverNow 97 = .ok (.goto 11, 3) := by decide +kernel
theorem dX4_coverNow_100 : decode cX4_coverNow 100 = .ok (.iload 10, 2) := by decide +kernel
theorem dX4_coverNow_102 : decode cX4_coverNow 102 = .ok (.istore 8, 2) := by decide +kernel
theorem dX4_coverNow_104 : decode cX4_coverNow 104 = .ok (.iload 9, 2) := by decide +kernel
theorem dX4_coverNow_106 : decode cX4_coverNow 106 = .ok (.istore 7, 2) := by decide +kernel
theorem dX4_coverNow_108 : decode cX4_coverNow 108 = .ok (.iinc 9 1, 3) := by decide +kernel
theorem dX4_coverNow_111 : decode cX4_coverNow 111 = .ok (.goto (-68), 3) := by decide +kernel
theorem dX4_coverNow_114 : decode cX4_coverNow 114 = .ok (.iload 7, 2) := by decide +kernel
theorem dX4_coverNow_116 : decode cX4_coverNow 116 = .ok (.iconst (-1), 1) := by decide +kernel
theorem dX4_coverNow_117 : decode cX4_coverNow 117 = .ok (.if_icmp .ne 15, 3) := by decide +kernel
theorem dX4_coverNow_120 : decode cX4_coverNow 120 = .ok (.iconst 1, 1) := by decide +kernel
theorem dX4_coverNow_121 : decode cX4_coverNow 121 = .ok (.newarray .int, 2) := by decide +kernel
theorem dX4_coverNow_123 : decode cX4_coverNow 123 = .ok (.dup, 1) := by decide +kernel
theorem dX4_coverNow_124 : decode cX4_coverNow 124 = .ok (.iconst 0, 1) := by decide +kernel
theorem dX4_coverNow_125 : decode cX4_coverNow 125 = .ok (.iconst (-1), 1) := by decide +kernel
theorem dX4_coverNow_126 : decode cX4_coverNow 126 = .ok (.iastore, 1) := by decide +kernel
theorem dX4_coverNow_127 : decode cX4_coverNow 127 = .ok (.astore 9, 2) := by decide +kernel
theorem dX4_coverNow_129 : decode cX4_coverNow 129 = .ok (.aload 9, 2) := by decide +kernel
theorem dX4_coverNow_131 : decode cX4_coverNow 131 = .ok (.areturn, 1) := by decide +kernel
theorem dX4_coverNow_132 : decode cX4_coverNow 132 = .ok (.aload_n 3, 1) := by decide +kernel
theorem dX4_coverNow_133 : decode cX4_coverNow 133 = .ok (.iload 4, 2) := by decide +kernel
theorem dX4_coverNow_135 : decode cX4_coverNow 135 = .ok (.iinc 4 1, 3) := by decide +kernel
theorem dX4_coverNow_138 : decode cX4_coverNow 138 = .ok (.iload 7, 2) := by decide +kernel
theorem dX4_coverNow_140 : decode cX4_coverNow 140 = .ok (.iastore, 1) := by decide +kernel
theorem dX4_coverNow_141 : decode cX4_coverNow 141 = .ok (.iload 8, 2) := by decide +kernel
theorem dX4_coverNow_143 : decode cX4_coverNow 143 = .ok (.istore 5, 2) := by decide +kernel
theorem dX4_coverNow_145 : decode cX4_coverNow 145 = .ok (.aload_n 0, 1) := by decide +kernel
theorem dX4_coverNow_146 : decode cX4_coverNow 146 = .ok (.getfield 11, 3) := by decide +kernel
theorem dX4_coverNow_149 : decode cX4_coverNow 149 = .ok (.iload_n 2, 1) := by decide +kernel
theorem dX4_coverNow_150 : decode cX4_coverNow 150 = .ok (.aaload, 1) := by decide +kernel
theorem dX4_coverNow_151 : decode cX4_coverNow 151 = .ok (.iload 5, 2) := by decide +kernel
theorem dX4_coverNow_153 : decode cX4_coverNow 153 = .ok (.iconst 1, 1) := by decide +kernel
theorem dX4_coverNow_154 : decode cX4_coverNow 154 = .ok (.invokestatic 27, 3) := by decide +kernel
theorem dX4_coverNow_157 : decode cX4_coverNow 157 = .ok (.istore 6, 2) := by decide +kernel
theorem dX4_coverNow_159 : decode cX4_coverNow 159 = .ok (.goto (-134), 3) := by decide +kernel
theorem dX4_coverNow_162 : decode cX4_coverNow 162 = .ok (.iload 4, 2) := by decide +kernel
theorem dX4_coverNow_164 : decode cX4_coverNow 164 = .ok (.newarray .int, 2) := by decide +kernel
theorem dX4_coverNow_166 : decode cX4_coverNow 166 = .ok (.astore 6, 2) := by decide +kernel
theorem dX4_coverNow_168 : decode cX4_coverNow 168 = .ok (.aload_n 3, 1) := by decide +kernel
theorem dX4_coverNow_169 : decode cX4_coverNow 169 = .ok (.iconst 0, 1) := by decide +kernel
theorem dX4_coverNow_170 : decode cX4_coverNow 170 = .ok (.aload 6, 2) := by decide +kernel
theorem dX4_coverNow_172 : decode cX4_coverNow 172 = .ok (.iconst 0, 1) := by decide +kernel
theorem dX4_coverNow_173 : decode cX4_coverNow 173 = .ok (.iload 4, 2) := by decide +kernel
theorem dX4_coverNow_175 : decode cX4_coverNow 175 = .ok (.invokestatic 142, 3) := by decide +kernel
theorem dX4_coverNow_178 : decode cX4_coverNow 178 = .ok (.aload 6, 2) := by decide +kernel
theorem dX4_coverNow_180 : decode cX4_coverNow 180 = .ok (.areturn, 1) := by decide +kernel
theorem dX4_size_0 : decode cX4_size 0 = .ok (.aload_n 0, 1) := by decide +kernel
theorem dX4_size_1 : decode cX4_size 1 = .ok (.arraylength, 1) := by decide +kernel
theorem dX4_size_2 : decode cX4_size 2 = .ok (.iconst 1, 1) := by decide +kernel
theorem dX4_size_3 : decode cX4_size 3 = .ok (.if_icmp .ne 14, 3) := by decide +kernel
theorem dX4_size_6 : decode cX4_size 6 = .ok (.aload_n 0, 1) := by decide +kernel
theorem dX4_size_7 : decode cX4_size 7 = .ok (.iconst 0, 1) := by decide +kernel
theorem dX4_size_8 : decode cX4_size 8 = .ok (.iaload, 1) := by decide +kernel
theorem dX4_size_9 : decode cX4_size 9 = .ok (.iconst (-1), 1) := by decide +kernel
theorem dX4_size_10 : decode cX4_size 10 = .ok (.if_icmp .ne 7, 3) := by decide +kernel
theorem dX4_size_13 : decode cX4_size 13 = .ok (.iconst (-1), 1) := by decide +kernel
theorem dX4_size_14 : decode cX4_size 14 = .ok (.goto 5, 3) := by decide +kernel
theorem dX4_size_17 : decode cX4_size 17 = .ok (.aload_n 0, 1) := by decide +kernel
theorem dX4_size_18 : decode cX4_size 18 = .ok (.arraylength, 1) := by decide +kernel
theorem dX4_size_19 : decode cX4_size 19 = .ok (.ireturn, 1) := by decide +kernel
set_option maxRecDepth 20000 in
theorem ggX4_cover_X4_isSet : GoodIn wsX4_cover wsX4_isSet := goodIn_r _ [5, 6, 7, 4, 8] (by decide +kernel) (by decide +kernel)
set_option maxRecDepth 20000 in
theorem gX4_cover_X4_isSet : GoodIn wsX4_cover (va_wsS RX4 47 yX4_isSet wsX4_isSet) := goodIn_app (goodIn_of _ (by decide +kernel)) ggX4_cover_X4_isSet
set_option maxRecDepth 20000 in
theorem ggX4_cover_X4_no : GoodIn wsX4_cover wsX4_no := goodIn_r _ [12, 1, 29, 30, 31] (by decide +kernel) (by decide +kernel)
set_option maxRecDepth 20000 in
theorem gX4_cover_X4_no : GoodIn wsX4_cover (wsV RX4 51 RX4 yX4_no wsX4_no) := goodIn_app (goodIn_of _ (by decide +kernel)) ggX4_cover_X4_no
set_option maxRecDepth 20000 in
theorem ggX4_cover_X4_isIn : GoodIn wsX4_cover wsX4_isIn := goodIn_r _ [8] (by decide +kernel) (by decide +kernel)
set_option maxRecDepth 20000 in
theorem gX4_cover_X4_isIn : GoodIn wsX4_cover (va_wsS RX4 23 yX4_isIn wsX4_isIn) := goodIn_app (goodIn_of _ (by decide +kernel)) ggX4_cover_X4_isIn
set_option maxRecDepth 20000 in
theorem ggX4_cover_X4_coverNow : GoodIn wsX4_cover wsX4_coverNow := goodIn_r _ [16, 17, 18, 19, 20, 21, 22, 23, 24, 4, 25, 29, 30, 31] (by decide +kernel) (by decide +kernel)
set_option maxRecDepth 20000 in
theorem gX4_cover_X4_coverNow : GoodIn wsX4_cover (wsV RX4 148 RX4 yX4_coverNow wsX4_coverNow) := goodIn_app (goodIn_of _ (by decide +kernel)) ggX4_cover_X4_coverNow
set_option maxRecDepth 20000 in
theorem ggX4_cover_X4_size : GoodIn wsX4_cover wsX4_size := goodIn_r _ [28] (by decide +kernel) (by decide +kernel)
set_option maxRecDepth 20000 in
theorem gX4_cover_X4_size : GoodIn wsX4_cover (va_wsS RX4 152 yX4_size wsX4_size) := goodIn_app (goodIn_of _ (by decide +kernel)) ggX4_cover_X4_size
theorem dX4_cover_0 : decode cX4_cover 0 = .ok (.aload_n 0, 1) := by decide +kernel
theorem dX4_cover_1 : decode cX4_cover 1 = .ok (.iconst 0, 1) := by decide +kernel
theorem dX4_cover_2 : decode cX4_cover 2 = .ok (.putfield 19, 3) := by decide +kernel
theorem dX4_cover_5 : decode cX4_cover 5 = .ok (.iload_n 2, 1) := by decide +kernel
theorem dX4_cover_6 : decode cX4_cover 6 = .ok (.invokestatic 47, 3) := by decide +kernel
theorem dX4_cover_9 : decode cX4_cover 9 = .ok (.ifCond .ne 9, 3) := by decide +kernel
theorem dX4_cover_12 : decode cX4_cover 12 = .ok (.aload_n 0, 1) := by decide +kernel
theorem dX4_cover_13 : decode cX4_cover 13 = .ok (.iconst 1, 1) := by decide +kernel
theorem dX4_cover_14 : decode cX4_cover 14 = .ok (.invokevirtual 51, 3) := by decide +kernel
theorem dX4_cover_17 : decode cX4_cover 17 = .ok (.ireturn, 1) := by decide +kernel
theorem dX4_cover_18 : decode cX4_cover 18 = .ok (.iload_n 1, 1) := by decide +kernel
theorem dX4_cover_19 : decode cX4_cover 19 = .ok (.iconst 0, 1) := by decide +kernel
theorem dX4_cover_20 : decode cX4_cover 20 = .ok (.sipush 255, 3) := by decide +kernel
theorem dX4_cover_23 : decode cX4_cover 23 = .ok (.invokestatic 23, 3) := by decide +kernel
theorem dX4_cover_26 : decode cX4_cover 26 = .ok (.ifCond .eq 15, 3) := by decide +kernel
theorem dX4_cover_29 : decode cX4_cover 29 = .ok (.aload_n 0, 1) := by decide +kernel
theorem dX4_cover_30 : decode cX4_cover 30 = .ok (.iload_n 1, 1) := by decide +kernel
theorem dX4_cover_31 : decode cX4_cover 31 = .ok (.iload_n 2, 1) := by decide +kernel
theorem dX4_cover_32 : decode cX4_cover 32 = .ok (.invokevirtual 148, 3) := by decide +kernel
theorem dX4_cover_35 : decode cX4_cover 35 = .ok (.invokestatic 152, 3) := by decide +kernel
theorem dX4_cover_38 : decode cX4_cover 38 = .ok (.goto 8, 3) := by decide +kernel
theorem dX4_cover_41 : decode cX4_cover 41 = .ok (.aload_n 0, 1) := by decide +kernel
theorem dX4_cover_42 : decode cX4_cover 42 = .ok (.iconst 2, 1) := by decide +kernel
theorem dX4_cover_43 : decode cX4_cover 43 = .ok (.invokevirtual 51, 3) := by decide +kernel
theorem dX4_cover_46 : decode cX4_cover 46 = .ok (.ireturn, 1) := by decide +kernel
set_option maxRecDepth 20000 in
theorem ggX4_covers_X4_isSet : GoodIn wsX4_covers wsX4_isSet := goodIn_r _ [5, 6, 7, 4, 8] (by decide +kernel) (by decide +kernel)
set_option maxRecDepth 20000 in
theorem gX4_covers_X4_isSet : GoodIn wsX4_covers (va_wsS RX4 47 yX4_isSet wsX4_isSet) := goodIn_app (goodIn_of _ (by decide +kernel)) ggX4_covers_X4_isSet
set_option maxRecDepth 20000 in
theorem ggX4_covers_X4_no : GoodIn wsX4_covers wsX4_no := goodIn_r _ [12, 1, 29, 30, 31] (by decide +kernel) (by decide +kernel)
set_option maxRecDepth 20000 in
theorem gX4_covers_X4_no : GoodIn wsX4_covers (wsV RX4 51 RX4 yX4_no wsX4_no) := goodIn_app (goodIn_of _ (by decide +kernel)) ggX4_covers_X4_no
set_option maxRecDepth 20000 in
theorem ggX4_covers_X4_isIn : GoodIn wsX4_covers wsX4_isIn := goodIn_r _ [8] (by decide +kernel) (by decide +kernel)
set_option maxRecDepth 20000 in
theorem gX4_covers_X4_isIn : GoodIn wsX4_covers (va_wsS RX4 23 yX4_isIn wsX4_isIn) := goodIn_app (goodIn_of _ (by decide +kernel)) ggX4_covers_X4_isIn
set_option maxRecDepth 20000 in
theorem ggX4_covers_X4_coverNow : GoodIn wsX4_covers wsX4_coverNow := goodIn_r _ [16, 17, 18, 19, 20, 21, 22, 23, 24, 4, 25, 29, 30, 31] (by decide +kernel) (by decide +kernel)
set_option maxRecDepth 20000 in
theorem gX4_covers_X4_coverNow : GoodIn wsX4_covers (wsV RX4 148 RX4 yX4_coverNow wsX4_coverNow) := goodIn_app (goodIn_of _ (by decide +kernel)) ggX4_covers_X4_coverNow
set_option maxRecDepth 20000 in
theorem ggX4_covers_X4_size : GoodIn wsX4_covers wsX4_size := goodIn_r _ [28] (by decide +kernel) (by decide +kernel)
set_option maxRecDepth 20000 in
theorem gX4_covers_X4_size : GoodIn wsX4_covers (va_wsS RX4 152 yX4_size wsX4_size) := goodIn_app (goodIn_of _ (by decide +kernel)) ggX4_covers_X4_size
theorem dX4_covers_0 : decode cX4_covers 0 = .ok (.aload_n 0, 1) := by decide +kernel
theorem dX4_covers_1 : decode cX4_covers 1 = .ok (.iconst 0, 1) := by decide +kernel
theorem dX4_covers_2 : decode cX4_covers 2 = .ok (.putfield 19, 3) := by decide +kernel
theorem dX4_covers_5 : decode cX4_covers 5 = .ok (.iload_n 2, 1) := by decide +kernel
theorem dX4_covers_6 : decode cX4_covers 6 = .ok (.invokestatic 47, 3) := by decide +kernel
theorem dX4_covers_9 : decode cX4_covers 9 = .ok (.ifCond .ne 9, 3) := by decide +kernel
theorem dX4_covers_12 : decode cX4_covers 12 = .ok (.aload_n 0, 1) := by decide +kernel
theorem dX4_covers_13 : decode cX4_covers 13 = .ok (.iconst 1, 1) := by decide +kernel
theorem dX4_covers_14 : decode cX4_covers 14 = .ok (.invokevirtual 51, 3) := by decide +kernel
theorem dX4_covers_17 : decode cX4_covers 17 = .ok (.ireturn, 1) := by decide +kernel
theorem dX4_covers_18 : decode cX4_covers 18 = .ok (.iload_n 1, 1) := by decide +kernel
theorem dX4_covers_19 : decode cX4_covers 19 = .ok (.iconst 0, 1) := by decide +kernel
theorem dX4_covers_20 : decode cX4_covers 20 = .ok (.sipush 255, 3) := by decide +kernel
theorem dX4_covers_23 : decode cX4_covers 23 = .ok (.invokestatic 23, 3) := by decide +kernel
theorem dX4_covers_26 : decode cX4_covers 26 = .ok (.ifCond .ne 9, 3) := by decide +kernel
theorem dX4_covers_29 : decode cX4_covers 29 = .ok (.aload_n 0, 1) := by decide +kernel
theorem dX4_covers_30 : decode cX4_covers 30 = .ok (.iconst 2, 1) := by decide +kernel
theorem dX4_covers_31 : decode cX4_covers 31 = .ok (.invokevirtual 51, 3) := by decide +kernel
theorem dX4_covers_34 : decode cX4_covers 34 = .ok (.ireturn, 1) := by decide +kernel
theorem dX4_covers_35 : decode cX4_covers 35 = .ok (.aload_n 0, 1) := by decide +kernel
theorem dX4_covers_36 : decode cX4_covers 36 = .ok (.iload_n 1, 1) := by decide +kernel
theorem dX4_covers_37 : decode cX4_covers 37 = .ok (.iload_n 2, 1) := by decide +kernel
theorem dX4_covers_38 : decode cX4_covers 38 = .ok (.invokevirtual 148, 3) := by decide +kernel
theorem dX4_covers_41 : decode cX4_covers 41 = .ok (.astore 4, 2) := by decide +kernel
theorem dX4_covers_43 : decode cX4_covers 43 = .ok (.iload_n 3, 1) := by decide +kernel
theorem dX4_covers_44 : decode cX4_covers 44 = .ok (.iconst 0, 1) := by decide +kernel
theorem dX4_covers_45 : decode cX4_covers 45 = .ok (.aload 4, 2) := by decide +kernel
theorem dX4_covers_47 : decode cX4_covers 47 = .ok (.invokestatic 152, 3) := by decide +kernel
theorem dX4_covers_50 : decode cX4_covers 50 = .ok (.iconst 1, 1) := by decide +kernel
theorem dX4_covers_51 : decode cX4_covers 51 = .ok (.isub, 1) := by decide +kernel
theorem dX4_covers_52 : decode cX4_covers 52 = .ok (.invokestatic 23, 3) := by decide +kernel
theorem dX4_covers_55 : decode cX4_covers 55 = .ok (.ifCond .eq 10, 3) := by decide +kernel
theorem dX4_covers_58 : decode cX4_covers 58 = .ok (.aload 4, 2) := by decide +kernel
theorem dX4_covers_60 : decode cX4_covers 60 = .ok (.iload_n 3, 1) := by decide +kernel
theorem dX4_covers_61 : decode cX4_covers 61 = .ok (.iaload, 1) := by decide +kernel
theorem dX4_covers_62 : decode cX4_covers 62 = .ok (.goto 8, 3) := by decide +kernel
theorem dX4_covers_65 : decode cX4_covers 65 = .ok (.aload_n 0, 1) := by decide +kernel
theorem dX4_covers_66 : decode cX4_covers 66 = .ok (.iconst 1, 1) := by decide +kernel
theorem dX4_covers_67 : decode cX4_covers 67 = .ok (.invokevirtual 51, 3) := by decide +kernel
theorem dX4_covers_70 : decode cX4_covers 70 = .ok (.ireturn, 1) := by decide +kernel
set_option maxRecDepth 20000 in
theorem ggX4_pinsNow_X4_isAt : GoodIn wsX4_pinsNow wsX4_isAt := goodIn_r _ [5] (by decide +kernel) (by decide +kernel)
set_option maxRecDepth 20000 in
theorem gX4_pinsNow_X4_isAt : GoodIn wsX4_pinsNow (va_wsS RX4 44 yX4_isAt wsX4_isAt) := goodIn_app (goodIn_of _ (by decide +kernel)) ggX4_pinsNow_X4_isAt
set_option maxRecDepth 20000 in
theorem ggX4_pinsNow_X4_beginOf : GoodIn wsX4_pinsNow wsX4_beginOf := goodIn_r _ [9, 1, 2, 3, 4, 5, 10, 11, 12] (by decide +kernel) (by decide +kernel)
set_option maxRecDepth 20000 in
theorem gX4_pinsNow_X4_beginOf : GoodIn wsX4_pinsNow (wsV RX4 155 RX4 yX4_beginOf wsX4_beginOf) := goodIn_app (goodIn_of _ (by decide +kernel)) ggX4_pinsNow_X4_beginOf
theorem dX4_pinsNow_0 : decode cX4_pinsNow 0 = .ok (.iconst 0, 1) := by decide +kernel
theorem dX4_pinsNow_1 : decode cX4_pinsNow 1 = .ok (.istore_n 2, 1) := by decide +kernel
theorem dX4_pinsNow_2 : decode cX4_pinsNow 2 = .ok (.iconst (-1), 1) := by decide +kernel
theorem dX4_pinsNow_3 : decode cX4_pinsNow 3 = .ok (.istore_n 3, 1) := by decide +kernel
theorem dX4_pinsNow_4 : decode cX4_pinsNow 4 = .ok (.iconst 0, 1) := by decide +kernel
theorem dX4_pinsNow_5 : decode cX4_pinsNow 5 = .ok (.istore 4, 2) := by decide +kernel
theorem dX4_pinsNow_7 : decode cX4_pinsNow 7 = .ok (.iload 4, 2) := by decide +kernel
theorem dX4_pinsNow_9 : decode cX4_pinsNow 9 = .ok (.sipush 201, 3) := by decide +kernel
theorem dX4_pinsNow_12 : decode cX4_pinsNow 12 = .ok (.if_icmp .ge 98, 3) := by decide +kernel
theorem dX4_pinsNow_15 : decode cX4_pinsNow 15 = .ok (.iconst 0, 1) := by decide +kernel
theorem dX4_pinsNow_16 : decode cX4_pinsNow 16 = .ok (.istore 5, 2) := by decide +kernel
theorem dX4_pinsNow_18 : decode cX4_pinsNow 18 = .ok (.iload 5, 2) := by decide +kernel
theorem dX4_pinsNow_20 : decode cX4_pinsNow 20 = .ok (.bipush 8, 2) := by decide +kernel
theorem dX4_pinsNow_22 : decode cX4_pinsNow 22 = .ok (.if_icmp .ge 82, 3) := by decide +kernel
theorem dX4_pinsNow_25 : decode cX4_pinsNow 25 = .ok (.iload_n 1, 1) := by decide +kernel
theorem dX4_pinsNow_26 : decode cX4_pinsNow 26 = .ok (.iload 5, 2) := by decide +kernel
theorem dX4_pinsNow_28 : decode cX4_pinsNow 28 = .ok (.ishr, 1) := by decide +kernel
theorem dX4_pinsNow_29 : decode cX4_pinsNow 29 = .ok (.iconst 1, 1) := by decide +kernel
theorem dX4_pinsNow_30 : decode cX4_pinsNow 30 = .ok (.iand, 1) := by decide +kernel
theorem dX4_pinsNow_31 : decode cX4_pinsNow 31 = .ok (.iconst 1, 1) := by decide +kernel
theorem dX4_pinsNow_32 : decode cX4_pinsNow 32 = .ok (.if_icmp .ne 37, 3) := by decide +kernel
theorem dX4_pinsNow_35 : decode cX4_pinsNow 35 = .ok (.aload_n 0, 1) := by decide +kernel
theorem dX4_pinsNow_36 : decode cX4_pinsNow 36 = .ok (.getfield 11, 3) := by decide +kernel
theorem dX4_pinsNow_39 : decode cX4_pinsNow 39 = .ok (.iload 5, 2) := by decide +kernel
theorem dX4_pinsNow_41 : decode cX4_pinsNow 41 = .ok (.aaload, 1) := by decide +kernel
theorem dX4_pinsNow_42 : decode cX4_pinsNow 42 = .ok (.iload 4, 2) := by decide +kernel
theorem dX4_pinsNow_44 : decode cX4_pinsNow 44 = .ok (.baload, 1) := by decide +kernel
theorem dX4_pinsNow_45 : decode cX4_pinsNow 45 = .ok (.ifCond .eq 24, 3) := by decide +kernel
theorem dX4_pinsNow_48 : decode cX4_pinsNow 48 = .ok (.aload_n 0, 1) := by decide +kernel
theorem dX4_pinsNow_49 : decode cX4_pinsNow 49 = .ok (.getfield 11, 3) := by decide +kernel
theorem dX4_pinsNow_52 : decode cX4_pinsNow 52 = .ok (.iload 5, 2) := by decide +kernel
theorem dX4_pinsNow_54 : decode cX4_pinsNow 54 = .ok (.aaload, 1) := by decide +kernel
theorem dX4_pinsNow_55 : decode cX4_pinsNow 55 = .ok (.iload 4, 2) := by decide +kernel
theorem dX4_pinsNow_57 : decode cX4_pinsNow 57 = .ok (.iconst 1, 1) := by decide +kernel
theorem dX4_pinsNow_58 : decode cX4_pinsNow 58 = .ok (.iadd, 1) := by decide +kernel
theorem dX4_pinsNow_59 : decode cX4_pinsNow 59 = .ok (.invokestatic 44, 3) := by decide +kernel
theorem dX4_pinsNow_62 : decode cX4_pinsNow 62 = .ok (.ifCond .ne 7, 3) := by decide +kernel
theorem dX4_pinsNow_65 : decode cX4_pinsNow 65 = .ok (.iconst 1, 1) := by decide +kernel
theorem dX4_pinsNow_66 : decode cX4_pinsNow 66 = .ok (.goto 4, 3) := by decide +kernel
theorem dX4_pinsNow_69 : decode cX4_pinsNow 69 = .ok (.iconst 0, 1) := by decide +kernel
theorem dX4_pinsNow_70 : decode cX4_pinsNow 70 = .ok (.istore 6, 2) := by decide +kernel
theorem dX4_pinsNow_72 : decode cX4_pinsNow 72 = .ok (.iload 6, 2) := by decide +kernel
theorem dX4_pinsNow_74 : decode cX4_pinsNow 74 = .ok (.ifCond .eq 24, 3) := by decide +kernel
theorem dX4_pinsNow_77 : decode cX4_pinsNow 77 = .ok (.aload_n 0, 1) := by decide +kernel
theorem dX4_pinsNow_78 : decode cX4_pinsNow 78 = .ok (.iload 5, 2) := by decide +kernel
theorem dX4_pinsNow_80 : decode cX4_pinsNow 80 = .ok (.iload 4, 2) := by decide +kernel
theorem dX4_pinsNow_82 : decode cX4_pinsNow 82 = .ok (.invokevirtual 155, 3) := by decide +kernel
theorem dX4_pinsNow_85 : decode cX4_pinsNow 85 = .ok (.iload_n 3, 1) := by decide +kernel
theorem dX4_pinsNow_86 : decode cX4_pinsNow 86 = .ok (.if_icmp .gt 6, 3) := by decide +kernel
theorem dX4_pinsNow_89 : decode cX4_pinsNow 89 = .ok (.goto 9, 3) := by decide +kernel
theorem dX4_pinsNow_92 : decode cX4_pinsNow 92 = .ok (.iload 4, 2) := by decide +kernel
theorem dX4_pinsNow_94 : decode cX4_pinsNow 94 = .ok (.istore_n 3, 1) := by decide +kernel
theorem dX4_pinsNow_95 : decode cX4_pinsNow 95 = .ok (.iinc 2 1, 3) := by decide +kernel
theorem dX4_pinsNow_98 : decode cX4_pinsNow 98 = .ok (.iinc 5 1, 3) := by decide +kernel
theorem dX4_pinsNow_101 : decode cX4_pinsNow 101 = .ok (.goto (-83), 3) := by decide +kernel
theorem dX4_pinsNow_104 : decode cX4_pinsNow 104 = .ok (.iinc 4 1, 3) := by decide +kernel
theorem dX4_pinsNow_107 : decode cX4_pinsNow 107 = .ok (.goto (-100), 3) := by decide +kernel
theorem dX4_pinsNow_110 : decode cX4_pinsNow 110 = .ok (.iload_n 2, 1) := by decide +kernel
theorem dX4_pinsNow_111 : decode cX4_pinsNow 111 = .ok (.ireturn, 1) := by decide +kernel
set_option maxRecDepth 20000 in
theorem ggX4_beginOf_X4_isAt : GoodIn wsX4_beginOf wsX4_isAt := goodIn_r _ [5] (by decide +kernel) (by decide +kernel)
set_option maxRecDepth 20000 in
theorem gX4_beginOf_X4_isAt : GoodIn wsX4_beginOf (va_wsS RX4 44 yX4_isAt wsX4_isAt) := goodIn_app (goodIn_of _ (by decide +kernel)) ggX4_beginOf_X4_isAt
theorem dX4_beginOf_0 : decode cX4_beginOf 0 = .ok (.iload_n 2, 1) := by decide +kernel
theorem dX4_beginOf_1 : decode cX4_beginOf 1 = .ok (.istore_n 3, 1) := by decide +kernel
theorem dX4_beginOf_2 : decode cX4_beginOf 2 = .ok (.aload_n 0, 1) := by decide +kernel
theorem dX4_beginOf_3 : decode cX4_beginOf 3 = .ok (.getfield 11, 3) := by decide +kernel
theorem dX4_beginOf_6 : decode cX4_beginOf 6 = .ok (.iload_n 1, 1) := by decide +kernel
theorem dX4_beginOf_7 : decode cX4_beginOf 7 = .ok (.aaload, 1) := by decide +kernel
theorem dX4_beginOf_8 : decode cX4_beginOf 8 = .ok (.iload_n 3, 1) := by decide +kernel
theorem dX4_beginOf_9 : decode cX4_beginOf 9 = .ok (.iconst 1, 1) := by decide +kernel
theorem dX4_beginOf_10 : decode cX4_beginOf 10 = .ok (.isub, 1) := by decide +kernel
theorem dX4_beginOf_11 : decode cX4_beginOf 11 = .ok (.invokestatic 44, 3) := by decide +kernel
theorem dX4_beginOf_14 : decode cX4_beginOf 14 = .ok (.ifCond .eq 9, 3) := by decide +kernel
theorem dX4_beginOf_17 : decode cX4_beginOf 17 = .ok (.iinc 3 (-1), 3) := by decide +kernel
theorem dX4_beginOf_20 : decode cX4_beginOf 20 = .ok (.goto (-18), 3) := by decide +kernel
theorem dX4_beginOf_23 : decode cX4_beginOf 23 = .ok (.iload_n 3, 1) := by decide +kernel
theorem dX4_beginOf_24 : decode cX4_beginOf 24 = .ok (.ireturn, 1) := by decide +kernel
set_option maxRecDepth 20000 in
theorem ggX4_apart_X4_isIn : GoodIn wsX4_apart wsX4_isIn := goodIn_r _ [5] (by decide +kernel) (by decide +kernel)
set_option maxRecDepth 20000 in
theorem gX4_apart_X4_isIn : GoodIn wsX4_apart (va_wsS RX4 23 yX4_isIn wsX4_isIn) := goodIn_app (goodIn_of _ (by decide +kernel)) ggX4_apart_X4_isIn
set_option maxRecDepth 20000 in
theorem ggX4_apart_X4_pinsNow : GoodIn wsX4_apart wsX4_pinsNow := goodIn_r _ [9, 10, 11, 12, 4, 13, 14, 15, 16, 17, 22, 23, 24] (by decide +kernel) (by decide +kernel)
set_option maxRecDepth 20000 in
theorem gX4_apart_X4_pinsNow : GoodIn wsX4_apart (wsV RX4 158 RX4 yX4_pinsNow wsX4_pinsNow) := goodIn_app (goodIn_of _ (by decide +kernel)) ggX4_apart_X4_pinsNow
set_option maxRecDepth 20000 in
theorem ggX4_apart_X4_no : GoodIn wsX4_apart wsX4_no := goodIn_r _ [21, 1, 22, 23, 24] (by decide +kernel) (by decide +kernel)
set_option maxRecDepth 20000 in
theorem gX4_apart_X4_no : GoodIn wsX4_apart (wsV RX4 51 RX4 yX4_no wsX4_no) := goodIn_app (goodIn_of _ (by decide +kernel)) ggX4_apart_X4_no
theorem dX4_apart_0 : decode cX4_apart 0 = .ok (.aload_n 0, 1) := by decide +kernel
theorem dX4_apart_1 : decode cX4_apart 1 = .ok (.iconst 0, 1) := by decide +kernel
theorem dX4_apart_2 : decode cX4_apart 2 = .ok (.putfield 19, 3) := by decide +kernel
theorem dX4_apart_5 : decode cX4_apart 5 = .ok (.iload_n 1, 1) := by decide +kernel
theorem dX4_apart_6 : decode cX4_apart 6 = .ok (.iconst 0, 1) := by decide +kernel
theorem dX4_apart_7 : decode cX4_apart 7 = .ok (.sipush 255, 3) := by decide +kernel
theorem dX4_apart_10 : decode cX4_apart 10 = .ok (.invokestatic 23, 3) := by decide +kernel
theorem dX4_apart_13 : decode cX4_apart 13 = .ok (.ifCond .eq 11, 3) := by decide +kernel
theorem dX4_apart_16 : decode cX4_apart 16 = .ok (.aload_n 0, 1) := by decide +kernel
theorem dX4_apart_17 : decode cX4_apart 17 = .ok (.iload_n 1, 1) := by decide +kernel
theorem dX4_apart_18 : decode cX4_apart 18 = .ok (.invokevirtual 158, 3) := by decide +kernel
theorem dX4_apart_21 : decode cX4_apart 21 = .ok (.goto 8, 3) := by decide +kernel
theorem dX4_apart_24 : decode cX4_apart 24 = .ok (.aload_n 0, 1) := by decide +kernel
theorem dX4_apart_25 : decode cX4_apart 25 = .ok (.iconst 1, 1) := by decide +kernel
theorem dX4_apart_26 : decode cX4_apart 26 = .ok (.invokevirtual 51, 3) := by decide +kernel
theorem dX4_apart_29 : decode cX4_apart 29 = .ok (.ireturn, 1) := by decide +kernel
set_option maxRecDepth 20000 in
theorem ggX4_pins_X4_isIn : GoodIn wsX4_pins wsX4_isIn := goodIn_r _ [5] (by decide +kernel) (by decide +kernel)
set_option maxRecDepth 20000 in
theorem gX4_pins_X4_isIn : GoodIn wsX4_pins (va_wsS RX4 23 yX4_isIn wsX4_isIn) := goodIn_app (goodIn_of _ (by decide +kernel)) ggX4_pins_X4_isIn
set_option maxRecDepth 20000 in
theorem ggX4_pins_X4_pinsNow : GoodIn wsX4_pins wsX4_pinsNow := goodIn_r _ [9, 10, 11, 12, 4, 13, 14, 15, 16, 17, 22, 23, 24] (by decide +kernel) (by decide +kernel)
set_option maxRecDepth 20000 in
theorem gX4_pins_X4_pinsNow : GoodIn wsX4_pins (wsV RX4 158 RX4 yX4_pinsNow wsX4_pinsNow) := goodIn_app (goodIn_of _ (by decide +kernel)) ggX4_pins_X4_pinsNow
set_option maxRecDepth 20000 in
theorem ggX4_pins_X4_no : GoodIn wsX4_pins wsX4_no := goodIn_r _ [21, 1, 22, 23, 24] (by decide +kernel) (by decide +kernel)
set_option maxRecDepth 20000 in
theorem gX4_pins_X4_no : GoodIn wsX4_pins (wsV RX4 51 RX4 yX4_no wsX4_no) := goodIn_app (goodIn_of _ (by decide +kernel)) ggX4_pins_X4_no
theorem dX4_pins_0 : decode cX4_pins 0 = .ok (.aload_n 0, 1) := by decide +kernel
theorem dX4_pins_1 : decode cX4_pins 1 = .ok (.iconst 0, 1) := by decide +kernel
theorem dX4_pins_2 : decode cX4_pins 2 = .ok (.putfield 19, 3) := by decide +kernel
theorem dX4_pins_5 : decode cX4_pins 5 = .ok (.iload_n 1, 1) := by decide +kernel
theorem dX4_pins_6 : decode cX4_pins 6 = .ok (.iconst 0, 1) := by decide +kernel
theorem dX4_pins_7 : decode cX4_pins 7 = .ok (.sipush 255, 3) := by decide +kernel
theorem dX4_pins_10 : decode cX4_pins 10 = .ok (.invokestatic 23, 3) := by decide +kernel
theorem dX4_pins_13 : decode cX4_pins 13 = .ok (.ifCond .eq 11, 3) := by decide +kernel
theorem dX4_pins_16 : decode cX4_pins 16 = .ok (.aload_n 0, 1) := by decide +kernel
theorem dX4_pins_17 : decode cX4_pins 17 = .ok (.iload_n 1, 1) := by decide +kernel
theorem dX4_pins_18 : decode cX4_pins 18 = .ok (.invokevirtual 158, 3) := by decide +kernel
theorem dX4_pins_21 : decode cX4_pins 21 = .ok (.goto 8, 3) := by decide +kernel
theorem dX4_pins_24 : decode cX4_pins 24 = .ok (.aload_n 0, 1) := by decide +kernel
theorem dX4_pins_25 : decode cX4_pins 25 = .ok (.iconst 1, 1) := by decide +kernel
theorem dX4_pins_26 : decode cX4_pins 26 = .ok (.invokevirtual 51, 3) := by decide +kernel
theorem dX4_pins_29 : decode cX4_pins 29 = .ok (.ireturn, 1) := by decide +kernel
theorem dX4_both_0 : decode cX4_both 0 = .ok (.sipush 201, 3) := by decide +kernel
theorem dX4_both_3 : decode cX4_both 3 = .ok (.newarray .boolean, 2) := by decide +kernel
theorem dX4_both_5 : decode cX4_both 5 = .ok (.astore_n 2, 1) := by decide +kernel
theorem dX4_both_6 : decode cX4_both 6 = .ok (.iconst 0, 1) := by decide +kernel
theorem dX4_both_7 : decode cX4_both 7 = .ok (.istore_n 3, 1) := by decide +kernel
theorem dX4_both_8 : decode cX4_both 8 = .ok (.iload_n 3, 1) := by decide +kernel
theorem dX4_both_9 : decode cX4_both 9 = .ok (.sipush 201, 3) := by decide +kernel
theorem dX4_both_12 : decode cX4_both 12 = .ok (.if_icmp .ge 29, 3) := by decide +kernel
theorem dX4_both_15 : decode cX4_both 15 = .ok (.aload_n 2, 1) := by decide +kernel
theorem dX4_both_16 : decode cX4_both 16 = .ok (.iload_n 3, 1) := by decide +kernel
theorem dX4_both_17 : decode cX4_both 17 = .ok (.aload_n 0, 1) := by decide +kernel
theorem dX4_both_18 : decode cX4_both 18 = .ok (.iload_n 3, 1) := by decide +kernel
theorem dX4_both_19 : decode cX4_both 19 = .ok (.baload, 1) := by decide +kernel
theorem dX4_both_20 : decode cX4_both 20 = .ok (.ifCond .eq 13, 3) := by decide +kernel
theorem dX4_both_23 : decode cX4_both 23 = .ok (.aload_n 1, 1) := by decide +kernel
theorem dX4_both_24 : decode cX4_both 24 = .ok (.iload_n 3, 1) := by decide +kernel
theorem dX4_both_25 : decode cX4_both 25 = .ok (.baload, 1) := by decide +kernel
theorem dX4_both_26 : decode cX4_both 26 = .ok (.ifCond .eq 7, 3) := by decide +kernel
theorem dX4_both_29 : decode cX4_both 29 = .ok (.iconst 1, 1) := by decide +kernel
theorem dX4_both_30 : decode cX4_both 30 = .ok (.goto 4, 3) := by decide +kernel
theorem dX4_both_33 : decode cX4_both 33 = .ok (.iconst 0, 1) := by decide +kernel
theorem dX4_both_34 : decode cX4_both 34 = .ok (.bastore, 1) := by decide +kernel
theorem dX4_both_35 : decode cX4_both 35 = .ok (.iinc 3 1, 3) := by decide +kernel
theorem dX4_both_38 : decode cX4_both 38 = .ok (.goto (-30), 3) := by decide +kernel
theorem dX4_both_41 : decode cX4_both 41 = .ok (.aload_n 2, 1) := by decide +kernel
theorem dX4_both_42 : decode cX4_both 42 = .ok (.areturn, 1) := by decide +kernel
set_option maxRecDepth 20000 in
theorem ggX4_meetWith_X4_isSet : GoodIn wsX4_meetWith wsX4_isSet := goodIn_r _ [6, 7, 8, 5, 9] (by decide +kernel) (by decide +kernel)
set_option maxRecDepth 20000 in
theorem gX4_meetWith_X4_isSet : GoodIn wsX4_meetWith (va_wsS RX4 47 yX4_isSet wsX4_isSet) := goodIn_app (goodIn_of _ (by decide +kernel)) ggX4_meetWith_X4_isSet
set_option maxRecDepth 20000 in
theorem ggX4_meetWith_X4_no : GoodIn wsX4_meetWith wsX4_no := goodIn_r _ [13, 1, 27, 28, 29] (by decide +kernel) (by decide +kernel)
set_option maxRecDepth 20000 in
theorem gX4_meetWith_X4_no : GoodIn wsX4_meetWith (wsV RX4 51 RX4 yX4_no wsX4_no) := goodIn_app (goodIn_of _ (by decide +kernel)) ggX4_meetWith_X4_no
set_option maxRecDepth 20000 in
theorem ggX4_meetWith_X4_isIn : GoodIn wsX4_meetWith wsX4_isIn := goodIn_r _ [9] (by decide +kernel) (by decide +kernel)
set_option maxRecDepth 20000 in
theorem gX4_meetWith_X4_isIn : GoodIn wsX4_meetWith (va_wsS RX4 23 yX4_isIn wsX4_isIn) := goodIn_app (goodIn_of _ (by decide +kernel)) ggX4_meetWith_X4_isIn
set_option maxRecDepth 20000 in
theorem ggX4_meetWith_X4_moved : GoodIn wsX4_meetWith wsX4_moved := goodIn_r _ [16, 17, 18, 19, 5, 20] (by decide +kernel) (by decide +kernel)
set_option maxRecDepth 20000 in
theorem gX4_meetWith_X4_moved : GoodIn wsX4_meetWith (va_wsS RX4 73 yX4_moved wsX4_moved) := goodIn_app (goodIn_of _ (by decide +kernel)) ggX4_meetWith_X4_moved
set_option maxRecDepth 20000 in
theorem ggX4_meetWith_X4_both : GoodIn wsX4_meetWith wsX4_both := goodIn_r _ [23, 17] (by decide +kernel) (by decide +kernel)
set_option maxRecDepth 20000 in
theorem gX4_meetWith_X4_both : GoodIn wsX4_meetWith (va_wsS RX4 161 yX4_both wsX4_both) := goodIn_app (goodIn_of _ (by decide +kernel)) ggX4_meetWith_X4_both
set_option maxRecDepth 20000 in
theorem ggX4_meetWith_X4_longOf_ : GoodIn wsX4_meetWith wsX4_longOf_ := goodIn_r _ [26] (by decide +kernel) (by decide +kernel)
set_option maxRecDepth 20000 in
theorem gX4_meetWith_X4_longOf_ : GoodIn wsX4_meetWith (va_wsS RX4 79 yX4_longOf_ wsX4_longOf_) := goodIn_app (goodIn_of _ (by decide +kernel)) ggX4_meetWith_X4_longOf_
theorem dX4_meetWith_0 : decode cX4_meetWith 0 = .ok (.aload_n 0, 1) := by decide +kernel
theorem dX4_meetWith_1 : decode cX4_meetWith 1 = .ok (.iconst 0, 1) := by decide +kernel
theorem dX4_meetWith_2 : decode cX4_meetWith 2 = .ok (.putfield 19, 3) := by decide +kernel
theorem dX4_meetWith_5 : decode cX4_meetWith 5 = .ok (.iload_n 1, 1) := by decide +kernel
theorem dX4_meetWith_6 : decode cX4_meetWith 6 = .ok (.invokestatic 47, 3) := by decide +kernel
theorem dX4_meetWith_9 : decode cX4_meetWith 9 = .ok (.ifCond .eq 10, 3) := by decide +kernel
theorem dX4_meetWith_12 : decode cX4_meetWith 12 = .ok (.iload_n 3, 1) := by decide +kernel
theorem dX4_meetWith_13 : decode cX4_meetWith 13 = .ok (.invokestatic 47, 3) := by decide +kernel
theorem dX4_meetWith_16 : decode cX4_meetWith 16 = .ok (.ifCond .ne 9, 3) := by decide +kernel
theorem dX4_meetWith_19 : decode cX4_meetWith 19 = .ok (.aload_n 0, 1) := by decide +kernel
theorem dX4_meetWith_20 : decode cX4_meetWith 20 = .ok (.iconst 1, 1) := by decide +kernel
theorem dX4_meetWith_21 : decode cX4_meetWith 21 = .ok (.invokevirtual 51, 3) := by decide +kernel
theorem dX4_meetWith_24 : decode cX4_meetWith 24 = .ok (.ireturn, 1) := by decide +kernel
theorem dX4_meetWith_25 : decode cX4_meetWith 25 = .ok (.iload_n 2, 1) := by decide +kernel
theorem dX4_meetWith_26 : decode cX4_meetWith 26 = .ok (.bipush (-100), 2) := by decide +kernel
theorem dX4_meetWith_28 : decode cX4_meetWith 28 = .ok (.bipush 100, 2) := by decide +kernel
theorem dX4_meetWith_30 : decode cX4_meetWith 30 = .ok (.invokestatic 23, 3) := by decide +kernel
theorem dX4_meetWith_33 : decode cX4_meetWith 33 = .ok (.ifCond .eq 28, 3) := by decide +kernel
theorem dX4_meetWith_36 : decode cX4_meetWith 36 = .ok (.aload_n 0, 1) := by decide +kernel
theorem dX4_meetWith_37 : decode cX4_meetWith 37 = .ok (.getfield 11, 3) := by decide +kernel
theorem dX4_meetWith_40 : decode cX4_meetWith 40 = .ok (.iload_n 1, 1) := by decide +kernel
theorem dX4_meetWith_41 : decode cX4_meetWith 41 = .ok (.aaload, 1) := by decide +kernel
theorem dX4_meetWith_42 : decode cX4_meetWith 42 = .ok (.iload_n 2, 1) := by decide +kernel
theorem dX4_meetWith_43 : decode cX4_meetWith 43 = .ok (.invokestatic 73, 3) := by decide +kernel
theorem dX4_meetWith_46 : decode cX4_meetWith 46 = .ok (.aload_n 0, 1) := by decide +kernel
theorem dX4_meetWith_47 : decode cX4_meetWith 47 = .ok (.getfield 11, 3) := by decide +kernel
theorem dX4_meetWith_50 : decode cX4_meetWith 50 = .ok (.iload_n 3, 1) := by decide +kernel
theorem dX4_meetWith_51 : decode cX4_meetWith 51 = .ok (.aaload, 1) := by decide +kernel
theorem dX4_meetWith_52 : decode cX4_meetWith 52 = .ok (.invokestatic 161, 3) := by decide +kernel
theorem dX4_meetWith_55 : decode cX4_meetWith 55 = .ok (.invokestatic 79, 3) := by decide +kernel
theorem dX4_meetWith_58 : decode cX4_meetWith 58 = .ok (.goto 8, 3) := by decide +kernel
theorem dX4_meetWith_61 : decode cX4_meetWith 61 = .ok (.aload_n 0, 1) := by decide +kernel
theorem dX4_meetWith_62 : decode cX4_meetWith 62 = .ok (.iconst 2, 1) := by decide +kernel
theorem dX4_meetWith_63 : decode cX4_meetWith 63 = .ok (.invokevirtual 51, 3) := by decide +kernel
theorem dX4_meetWith_66 : decode cX4_meetWith 66 = .ok (.ireturn, 1) := by decide +kernel
set_option maxRecDepth 20000 in
theorem ggX4_isClear_X4_moved : GoodIn wsX4_isClear wsX4_moved := goodIn_r _ [5, 6, 7, 8, 4, 9] (by decide +kernel) (by decide +kernel)
set_option maxRecDepth 20000 in
theorem gX4_isClear_X4_moved : GoodIn wsX4_isClear (va_wsS RX4 73 yX4_moved wsX4_moved) := goodIn_app (goodIn_of _ (by decide +kernel)) ggX4_isClear_X4_moved
set_option maxRecDepth 20000 in
theorem ggX4_isClear_X4_count : GoodIn wsX4_isClear wsX4_count := goodIn_r _ [12] (by decide +kernel) (by decide +kernel)
set_option maxRecDepth 20000 in
theorem gX4_isClear_X4_count : GoodIn wsX4_isClear (va_wsS RX4 62 yX4_count wsX4_count) := goodIn_app (goodIn_of _ (by decide +kernel)) ggX4_isClear_X4_count
set_option maxRecDepth 20000 in
theorem ggX4_isClear_X4_both : GoodIn wsX4_isClear wsX4_both := goodIn_r _ [15, 6] (by decide +kernel) (by decide +kernel)
set_option maxRecDepth 20000 in
theorem gX4_isClear_X4_both : GoodIn wsX4_isClear (va_wsS RX4 161 yX4_both wsX4_both) := goodIn_app (goodIn_of _ (by decide +kernel)) ggX4_isClear_X4_both
theorem dX4_isClear_0 : decode cX4_isClear 0 = .ok (.aload_n 0, 1) := by decide +kernel
theorem dX4_isClear_1 : decode cX4_isClear 1 = .ok (.getfield 11, 3) := by decide +kernel
theorem dX4_isClear_4 : decode cX4_isClear 4 = .ok (.iload_n 1, 1) := by decide +kernel
theorem dX4_isClear_5 : decode cX4_isClear 5 = .ok (.aaload, 1) := by decide +kernel
theorem dX4_isClear_6 : decode cX4_isClear 6 = .ok (.iload_n 2, 1) := by decide +kernel
theorem dX4_isClear_7 : decode cX4_isClear 7 = .ok (.invokestatic 73, 3) := by decide +kernel
theorem dX4_isClear_10 : decode cX4_isClear 10 = .ok (.astore 4, 2) := by decide +kernel
theorem dX4_isClear_12 : decode cX4_isClear 12 = .ok (.aload 4, 2) := by decide +kernel
theorem dX4_isClear_14 : decode cX4_isClear 14 = .ok (.invokestatic 62, 3) := by decide +kernel
theorem dX4_isClear_17 : decode cX4_isClear 17 = .ok (.aload_n 0, 1) := by decide +kernel
theorem dX4_isClear_18 : decode cX4_isClear 18 = .ok (.getfield 11, 3) := by decide +kernel
theorem dX4_isClear_21 : decode cX4_isClear 21 = .ok (.iload_n 1, 1) := by decide +kernel
theorem dX4_isClear_22 : decode cX4_isClear 22 = .ok (.aaload, 1) := by decide +kernel
theorem dX4_isClear_23 : decode cX4_isClear 23 = .ok (.invokestatic 62, 3) := by decide +kernel
theorem dX4_isClear_26 : decode cX4_isClear 26 = .ok (.if_icmp .ne 24, 3) := by decide +kernel
theorem dX4_isClear_29 : decode cX4_isClear 29 = .ok (.aload 4, 2) := by decide +kernel
theorem dX4_isClear_31 : decode cX4_isClear 31 = .ok (.aload_n 0, 1) := by decide +kernel
theorem dX4_isClear_32 : decode cX4_isClear 32 = .ok (.getfield 11, 3) := by decide +kernel
theorem dX4_isClear_35 : decode cX4_isClear 35 = .ok (.iload_n 3, 1) := by decide +kernel
theorem dX4_isClear_36 : decode cX4_isClear 36 = .ok (.aaload, 1) := by decide +kernel
theorem dX4_isClear_37 : decode cX4_isClear 37 = .ok (.invokestatic 161, 3) := by decide +kernel
theorem dX4_isClear_40 : decode cX4_isClear 40 = .ok (.invokestatic 62, 3) := by decide +kernel
theorem dX4_isClear_43 : decode cX4_isClear 43 = .ok (.ifCond .ne 7, 3) := by decide +kernel
theorem dX4_isClear_46 : decode cX4_isClear 46 = .ok (.iconst 1, 1) := by decide +kernel
theorem dX4_isClear_47 : decode cX4_isClear 47 = .ok (.goto 4, 3) := by decide +kernel
theorem dX4_isClear_50 : decode cX4_isClear 50 = .ok (.iconst 0, 1) := by decide +kernel
theorem dX4_isClear_51 : decode cX4_isClear 51 = .ok (.ireturn, 1) := by decide +kernel
set_option maxRecDepth 20000 in
theorem ggX4_clear_X4_isSet : GoodIn wsX4_clear wsX4_isSet := goodIn_r _ [5, 6, 7, 4, 8] (by decide +kernel) (by decide +kernel)
set_option maxRecDepth 20000 in
theorem gX4_clear_X4_isSet : GoodIn wsX4_clear (va_wsS RX4 47 yX4_isSet wsX4_isSet) := goodIn_app (goodIn_of _ (by decide +kernel)) ggX4_clear_X4_isSet
set_option maxRecDepth 20000 in
theorem ggX4_clear_X4_no : GoodIn wsX4_clear wsX4_no := goodIn_r _ [12, 1, 31, 32, 33] (by decide +kernel) (by decide +kernel)
set_option maxRecDepth 20000 in
theorem gX4_clear_X4_no : GoodIn wsX4_clear (wsV RX4 51 RX4 yX4_no wsX4_no) := goodIn_app (goodIn_of _ (by decide +kernel)) ggX4_clear_X4_no
set_option maxRecDepth 20000 in
theorem ggX4_clear_X4_isClear : GoodIn wsX4_clear wsX4_isClear := goodIn_r _ [16, 17, 18, 19, 4, 20, 21, 22, 23, 24, 25, 26, 27, 28, 29, 30, 31, 32, 33] (by decide +kernel) (by decide +kernel)
set_option maxRecDepth 20000 in
theorem gX4_clear_X4_isClear : GoodIn wsX4_clear (wsV RX4 165 RX4 yX4_isClear wsX4_isClear) := goodIn_app (goodIn_of _ (by decide +kernel)) ggX4_clear_X4_isClear
theorem dX4_clear_0 : decode cX4_clear 0 = .ok (.aload_n 0, 1) := by decide +kernel
theorem dX4_clear_1 : decode cX4_clear 1 = .ok (.iconst 0, 1) := by decide +kernel
theorem dX4_clear_2 : decode cX4_clear 2 = .ok (.putfield 19, 3) := by decide +kernel
theorem dX4_clear_5 : decode cX4_clear 5 = .ok (.iload_n 1, 1) := by decide +kernel
theorem dX4_clear_6 : decode cX4_clear 6 = .ok (.invokestatic 47, 3) := by decide +kernel
theorem dX4_clear_9 : decode cX4_clear 9 = .ok (.ifCond .eq 10, 3) := by decide +kernel
theorem dX4_clear_12 : decode cX4_clear 12 = .ok (.iload_n 2, 1) := by decide +kernel
theorem dX4_clear_13 : decode cX4_clear 13 = .ok (.invokestatic 47, 3) := by decide +kernel
theorem dX4_clear_16 : decode cX4_clear 16 = .ok (.ifCond .ne 9, 3) := by decide +kernel
theorem dX4_clear_19 : decode cX4_clear 19 = .ok (.aload_n 0, 1) := by decide +kernel
theorem dX4_clear_20 : decode cX4_clear 20 = .ok (.iconst 1, 1) := by decide +kernel
theorem dX4_clear_21 : decode cX4_clear 21 = .ok (.invokevirtual 51, 3) := by decide +kernel
theorem dX4_clear_24 : decode cX4_clear 24 = .ok (.ireturn, 1) := by decide +kernel
theorem dX4_clear_25 : decode cX4_clear 25 = .ok (.iconst 0, 1) := by decide +kernel
theorem dX4_clear_26 : decode cX4_clear 26 = .ok (.istore_n 3, 1) := by decide +kernel
theorem dX4_clear_27 : decode cX4_clear 27 = .ok (.iload_n 3, 1) := by decide +kernel
theorem dX4_clear_28 : decode cX4_clear 28 = .ok (.bipush 100, 2) := by decide +kernel
theorem dX4_clear_30 : decode cX4_clear 30 = .ok (.if_icmp .gt 35, 3) := by decide +kernel
theorem dX4_clear_33 : decode cX4_clear 33 = .ok (.aload_n 0, 1) := by decide +kernel
theorem dX4_clear_34 : decode cX4_clear 34 = .ok (.iload_n 1, 1) := by decide +kernel
theorem dX4_clear_35 : decode cX4_clear 35 = .ok (.iload_n 3, 1) := by decide +kernel
theorem dX4_clear_36 : decode cX4_clear 36 = .ok (.ineg, 1) := by decide +kernel
theorem dX4_clear_37 : decode cX4_clear 37 = .ok (.iload_n 2, 1) := by decide +kernel
theorem dX4_clear_38 : decode cX4_clear 38 = .ok (.invokevirtual 165, 3) := by decide +kernel
theorem dX4_clear_41 : decode cX4_clear 41 = .ok (.ifCond .eq 6, 3) := by decide +kernel
theorem dX4_clear_44 : decode cX4_clear 44 = .ok (.iload_n 3, 1) := by decide +kernel
theorem dX4_clear_45 : decode cX4_clear 45 = .ok (.ineg, 1) := by decide +kernel
theorem dX4_clear_46 : decode cX4_clear 46 = .ok (.ireturn, 1) := by decide +kernel
theorem dX4_clear_47 : decode cX4_clear 47 = .ok (.aload_n 0, 1) := by decide +kernel
theorem dX4_clear_48 : decode cX4_clear 48 = .ok (.iload_n 1, 1) := by decide +kernel
theorem dX4_clear_49 : decode cX4_clear 49 = .ok (.iload_n 3, 1) := by decide +kernel
theorem dX4_clear_50 : decode cX4_clear 50 = .ok (.iload_n 2, 1) := by decide +kernel
theorem dX4_clear_51 : decode cX4_clear 51 = .ok (.invokevirtual 165, 3) := by decide +kernel
theorem dX4_clear_54 : decode cX4_clear 54 = .ok (.ifCond .eq 5, 3) := by decide +kernel
theorem dX4_clear_57 : decode cX4_clear 57 = .ok (.iload_n 3, 1) := by decide +kernel
theorem dX4_clear_58 : decode cX4_clear 58 = .ok (.ireturn, 1) := by decide +kernel
theorem dX4_clear_59 : decode cX4_clear 59 = .ok (.iinc 3 1, 3) := by decide +kernel
theorem dX4_clear_62 : decode cX4_clear 62 = .ok (.goto (-35), 3) := by decide +kernel
theorem dX4_clear_65 : decode cX4_clear 65 = .ok (.sipush 1000, 3) := by decide +kernel
theorem dX4_clear_68 : decode cX4_clear 68 = .ok (.ireturn, 1) := by decide +kernel
set_option maxRecDepth 20000 in
theorem ggX4_best_X4_isFunction : GoodIn wsX4_best wsX4_isFunction := goodIn_r _ [6, 7, 8, 5, 9] (by decide +kernel) (by decide +kernel)
set_option maxRecDepth 20000 in
theorem gX4_best_X4_isFunction : GoodIn wsX4_best (va_wsS RX4 102 yX4_isFunction wsX4_isFunction) := goodIn_app (goodIn_of _ (by decide +kernel)) ggX4_best_X4_isFunction
set_option maxRecDepth 20000 in
theorem ggX4_best_X4_no : GoodIn wsX4_best wsX4_no := goodIn_r _ [13, 1, 17, 18, 19] (by decide +kernel) (by decide +kernel)
set_option maxRecDepth 20000 in
theorem gX4_best_X4_no : GoodIn wsX4_best (wsV RX4 51 RX4 yX4_no wsX4_no) := goodIn_app (goodIn_of _ (by decide +kernel)) ggX4_best_X4_no
set_option maxRecDepth 20000 in
theorem ggX4_best_X4_isIn : GoodIn wsX4_best wsX4_isIn := goodIn_r _ [9] (by decide +kernel) (by decide +kernel)
set_option maxRecDepth 20000 in
theorem gX4_best_X4_isIn : GoodIn wsX4_best (va_wsS RX4 23 yX4_isIn wsX4_isIn) := goodIn_app (goodIn_of _ (by decide +kernel)) ggX4_best_X4_isIn
set_option maxRecDepth 20000 in
theorem ggX4_best_X4_areaOf : GoodIn wsX4_best wsX4_areaOf := goodIn_r _ [16] (by decide +kernel) (by decide +kernel)
set_option maxRecDepth 20000 in
theorem gX4_best_X4_areaOf : GoodIn wsX4_best (va_wsS RX4 130 yX4_areaOf wsX4_areaOf) := goodIn_app (goodIn_of _ (by decide +kernel)) ggX4_best_X4_areaOf
theorem dX4_best_0 : decode cX4_best 0 = .ok (.aload_n 0, 1) := by decide +kernel
theorem dX4_best_1 : decode cX4_best 1 = .ok (.iconst 0, 1) := by decide +kernel
theorem dX4_best_2 : decode cX4_best 2 = .ok (.putfield 19, 3) := by decide +kernel
theorem dX4_best_5 : decode cX4_best 5 = .ok (.iload_n 1, 1) := by decide +kernel
theorem dX4_best_6 : decode cX4_best 6 = .ok (.invokestatic 102, 3) := by decide +kernel
theorem dX4_best_9 : decode cX4_best 9 = .ok (.ifCond .ne 9, 3) := by decide +kernel
theorem dX4_best_12 : decode cX4_best 12 = .ok (.aload_n 0, 1) := by decide +kernel
theorem dX4_best_13 : decode cX4_best 13 = .ok (.iconst 1, 1) := by decide +kernel
theorem dX4_best_14 : decode cX4_best 14 = .ok (.invokevirtual 51, 3) := by decide +kernel
theorem dX4_best_17 : decode cX4_best 17 = .ok (.ireturn, 1) := by decide +kernel
theorem dX4_best_18 : decode cX4_best 18 = .ok (.iload_n 2, 1) := by decide +kernel
theorem dX4_best_19 : decode cX4_best 19 = .ok (.iconst 1, 1) := by decide +kernel
theorem dX4_best_20 : decode cX4_best 20 = .ok (.bipush 100, 2) := by decide +kernel
theorem dX4_best_22 : decode cX4_best 22 = .ok (.invokestatic 23, 3) := by decide +kernel
theorem dX4_best_25 : decode cX4_best 25 = .ok (.ifCond .ne 9, 3) := by decide +kernel
theorem dX4_best_28 : decode cX4_best 28 = .ok (.aload_n 0, 1) := by decide +kernel
theorem dX4_best_29 : decode cX4_best 29 = .ok (.iconst 2, 1) := by decide +kernel
theorem dX4_best_30 : decode cX4_best 30 = .ok (.invokevirtual 51, 3) := by decide +kernel
theorem dX4_best_33 : decode cX4_best 33 = .ok (.ireturn, 1) := by decide +kernel
theorem dX4_best_34 : decode cX4_best 34 = .ok (.iconst 0, 1) := by decide +kernel
theorem dX4_best_35 : decode cX4_best 35 = .ok (.istore_n 3, 1) := by decide +kernel
theorem dX4_best_36 : decode cX4_best 36 = .ok (.iconst 1, 1) := by decide +kernel
theorem dX4_best_37 : decode cX4_best 37 = .ok (.istore 4, 2) := by decide +kernel
theorem dX4_best_39 : decode cX4_best 39 = .ok (.iload 4, 2) := by decide +kernel
theorem dX4_best_41 : decode cX4_best 41 = .ok (.iload_n 2, 1) := by decide +kernel
theorem dX4_best_42 : decode cX4_best 42 = .ok (.iadd, 1) := by decide +kernel
theorem dX4_best_43 : decode cX4_best 43 = .ok (.bipush 100, 2) := by decide +kernel
theorem dX4_best_45 : decode cX4_best 45 = .ok (.if_icmp .gt 51, 3) := by decide +kernel
theorem dX4_best_48 : decode cX4_best 48 = .ok (.aload_n 0, 1) := by decide +kernel
theorem dX4_best_49 : decode cX4_best 49 = .ok (.getfield 16, 3) := by decide +kernel
theorem dX4_best_52 : decode cX4_best 52 = .ok (.iload_n 1, 1) := by decide +kernel
theorem dX4_best_53 : decode cX4_best 53 = .ok (.aaload, 1) := by decide +kernel
theorem dX4_best_54 : decode cX4_best 54 = .ok (.iconst 2, 1) := by decide +kernel
theorem dX4_best_55 : decode cX4_best 55 = .ok (.iload 4, 2) := by decide +kernel
theorem dX4_best_57 : decode cX4_best 57 = .ok (.imul, 1) := by decide +kernel
theorem dX4_best_58 : decode cX4_best 58 = .ok (.iconst 2, 1) := by decide +kernel
theorem dX4_best_59 : decode cX4_best 59 = .ok (.iload 4, 2) := by decide +kernel
theorem dX4_best_61 : decode cX4_best 61 = .ok (.iload_n 2, 1) := by decide +kernel
theorem dX4_best_62 : decode cX4_best 62 = .ok (.iadd, 1) := by decide +kernel
theorem dX4_best_63 : decode cX4_best 63 = .ok (.imul, 1) := by decide +kernel
theorem dX4_best_64 : decode cX4_best 64 = .ok (.invokestatic 130, 3) := by decide +kernel
theorem dX4_best_67 : decode cX4_best 67 = .ok (.aload_n 0, 1) := by decide +kernel
theorem dX4_best_68 : decode cX4_best 68 = .ok (.getfield 16, 3) := by decide +kernel
theorem dX4_best_71 : decode cX4_best 71 = .ok (.iload_n 1, 1) := by decide +kernel
theorem dX4_best_72 : decode cX4_best 72 = .ok (.aaload, 1) := by decide +kernel
theorem dX4_best_73 : decode cX4_best 73 = .ok (.iconst 2, 1) := by decide +kernel
theorem dX4_best_74 : decode cX4_best 74 = .ok (.iload_n 3, 1) := by decide +kernel
theorem dX4_best_75 : decode cX4_best 75 = .ok (.imul, 1) := by decide +kernel
theorem dX4_best_76 : decode cX4_best 76 = .ok (.iconst 2, 1) := by decide +kernel
theorem dX4_best_77 : decode cX4_best 77 = .ok (.iload_n 3, 1) := by decide +kernel
theorem dX4_best_78 : decode cX4_best 78 = .ok (.iload_n 2, 1) := by decide +kernel
theorem dX4_best_79 : decode cX4_best 79 = .ok (.iadd, 1) := by decide +kernel
theorem dX4_best_80 : decode cX4_best 80 = .ok (.imul, 1) := by decide +kernel
theorem dX4_best_81 : decode cX4_best 81 = .ok (.invokestatic 130, 3) := by decide +kernel
theorem dX4_best_84 : decode cX4_best 84 = .ok (.if_icmp .le 6, 3) := by decide +kernel
theorem dX4_best_87 : decode cX4_best 87 = .ok (.iload 4, 2) := by decide +kernel
theorem dX4_best_89 : decode cX4_best 89 = .ok (.istore_n 3, 1) := by decide +kernel
theorem dX4_best_90 : decode cX4_best 90 = .ok (.iinc 4 1, 3) := by decide +kernel
theorem dX4_best_93 : decode cX4_best 93 = .ok (.goto (-54), 3) := by decide +kernel
theorem dX4_best_96 : decode cX4_best 96 = .ok (.iload_n 3, 1) := by decide +kernel
theorem dX4_best_97 : decode cX4_best 97 = .ok (.ireturn, 1) := by decide +kernel
set_option maxRecDepth 20000 in
theorem ggX4_saves_X4_isSet : GoodIn wsX4_saves wsX4_isSet := goodIn_r _ [5, 6, 7, 4, 8] (by decide +kernel) (by decide +kernel)
set_option maxRecDepth 20000 in
theorem gX4_saves_X4_isSet : GoodIn wsX4_saves (va_wsS RX4 47 yX4_isSet wsX4_isSet) := goodIn_app (goodIn_of _ (by decide +kernel)) ggX4_saves_X4_isSet
set_option maxRecDepth 20000 in
theorem ggX4_saves_X4_no : GoodIn wsX4_saves wsX4_no := goodIn_r _ [12, 1, 29, 30, 31] (by decide +kernel) (by decide +kernel)
set_option maxRecDepth 20000 in
theorem gX4_saves_X4_no : GoodIn wsX4_saves (wsV RX4 51 RX4 yX4_no wsX4_no) := goodIn_app (goodIn_of _ (by decide +kernel)) ggX4_saves_X4_no
set_option maxRecDepth 20000 in
theorem ggX4_saves_X4_isIn : GoodIn wsX4_saves wsX4_isIn := goodIn_r _ [8] (by decide +kernel) (by decide +kernel)
set_option maxRecDepth 20000 in
theorem gX4_saves_X4_isIn : GoodIn wsX4_saves (va_wsS RX4 23 yX4_isIn wsX4_isIn) := goodIn_app (goodIn_of _ (by decide +kernel)) ggX4_saves_X4_isIn
set_option maxRecDepth 20000 in
theorem ggX4_saves_X4_coverNow : GoodIn wsX4_saves wsX4_coverNow := goodIn_r _ [16, 17, 18, 19, 20, 21, 22, 23, 24, 4, 25, 29, 30, 31] (by decide +kernel) (by decide +kernel)
set_option maxRecDepth 20000 in
theorem gX4_saves_X4_coverNow : GoodIn wsX4_saves (wsV RX4 148 RX4 yX4_coverNow wsX4_coverNow) := goodIn_app (goodIn_of _ (by decide +kernel)) ggX4_saves_X4_coverNow
set_option maxRecDepth 20000 in
theorem ggX4_saves_X4_size : GoodIn wsX4_saves wsX4_size := goodIn_r _ [28] (by decide +kernel) (by decide +kernel)
set_option maxRecDepth 20000 in
theorem gX4_saves_X4_size : GoodIn wsX4_saves (va_wsS RX4 152 yX4_size wsX4_size) := goodIn_app (goodIn_of _ (by decide +kernel)) ggX4_saves_X4_size
theorem dX4_saves_0 : decode cX4_saves 0 = .ok (.aload_n 0, 1) := by decide +kernel
theorem dX4_saves_1 : decode cX4_saves 1 = .ok (.iconst 0, 1) := by decide +kernel
theorem dX4_saves_2 : decode cX4_saves 2 = .ok (.putfield 19, 3) := by decide +kernel
theorem dX4_saves_5 : decode cX4_saves 5 = .ok (.iload_n 2, 1) := by decide +kernel
theorem dX4_saves_6 : decode cX4_saves 6 = .ok (.invokestatic 47, 3) := by decide +kernel
theorem dX4_saves_9 : decode cX4_saves 9 = .ok (.ifCond .eq 10, 3) := by decide +kernel
theorem dX4_saves_12 : decode cX4_saves 12 = .ok (.iload_n 3, 1) := by decide +kernel
theorem dX4_saves_13 : decode cX4_saves 13 = .ok (.invokestatic 47, 3) := by decide +kernel
theorem dX4_saves_16 : decode cX4_saves 16 = .ok (.ifCond .ne 9, 3) := by decide +kernel
theorem dX4_saves_19 : decode cX4_saves 19 = .ok (.aload_n 0, 1) := by decide +kernel
theorem dX4_saves_20 : decode cX4_saves 20 = .ok (.iconst 1, 1) := by decide +kernel
theorem dX4_saves_21 : decode cX4_saves 21 = .ok (.invokevirtual 51, 3) := by decide +kernel
theorem dX4_saves_24 : decode cX4_saves 24 = .ok (.ireturn, 1) := by decide +kernel
theorem dX4_saves_25 : decode cX4_saves 25 = .ok (.iload_n 1, 1) := by decide +kernel
theorem dX4_saves_26 : decode cX4_saves 26 = .ok (.iconst 0, 1) := by decide +kernel
theorem dX4_saves_27 : decode cX4_saves 27 = .ok (.sipush 255, 3) := by decide +kernel
theorem dX4_saves_30 : decode cX4_saves 30 = .ok (.invokestatic 23, 3) := by decide +kernel
theorem dX4_saves_33 : decode cX4_saves 33 = .ok (.ifCond .ne 9, 3) := by decide +kernel
theorem dX4_saves_36 : decode cX4_saves 36 = .ok (.aload_n 0, 1) := by decide +kernel
theorem dX4_saves_37 : decode cX4_saves 37 = .ok (.iconst 2, 1) := by decide +kernel
theorem dX4_saves_38 : decode cX4_saves 38 = .ok (.invokevirtual 51, 3) := by decide +kernel
theorem dX4_saves_41 : decode cX4_saves 41 = .ok (.ireturn, 1) := by decide +kernel
theorem dX4_saves_42 : decode cX4_saves 42 = .ok (.aload_n 0, 1) := by decide +kernel
theorem dX4_saves_43 : decode cX4_saves 43 = .ok (.iload_n 1, 1) := by decide +kernel
theorem dX4_saves_44 : decode cX4_saves 44 = .ok (.iload_n 2, 1) := by decide +kernel
theorem dX4_saves_45 : decode cX4_saves 45 = .ok (.invokevirtual 148, 3) := by decide +kernel
theorem dX4_saves_48 : decode cX4_saves 48 = .ok (.invokestatic 152, 3) := by decide +kernel
theorem dX4_saves_51 : decode cX4_saves 51 = .ok (.istore 4, 2) := by decide +kernel
theorem dX4_saves_53 : decode cX4_saves 53 = .ok (.aload_n 0, 1) := by decide +kernel
theorem dX4_saves_54 : decode cX4_saves 54 = .ok (.iload_n 1, 1) := by decide +kernel
theorem dX4_saves_55 : decode cX4_saves 55 = .ok (.iconst 1, 1) := by decide +kernel
theorem dX4_saves_56 : decode cX4_saves 56 = .ok (.iload_n 3, 1) := by decide +kernel
theorem dX4_saves_57 : decode cX4_saves 57 = .ok (.ishl, 1) := by decide +kernel
theorem dX4_saves_58 : decode cX4_saves 58 = .ok (.ior, 1) := by decide +kernel
theorem dX4_saves_59 : decode cX4_saves 59 = .ok (.iload_n 2, 1) := by decide +kernel
theorem dX4_saves_60 : decode cX4_saves 60 = .ok (.invokevirtual 148, 3) := by decide +kernel
theorem dX4_saves_63 : decode cX4_saves 63 = .ok (.invokestatic 152, 3) := by decide +kernel
theorem dX4_saves_66 : decode cX4_saves 66 = .ok (.istore 5, 2) := by decide +kernel
theorem dX4_saves_68 : decode cX4_saves 68 = .ok (.iload 5, 2) := by decide +kernel
theorem dX4_saves_70 : decode cX4_saves 70 = .ok (.iconst (-1), 1) := by decide +kernel
theorem dX4_saves_71 : decode cX4_saves 71 = .ok (.if_icmp .ne 7, 3) := by decide +kernel
theorem dX4_saves_74 : decode cX4_saves 74 = .ok (.iconst (-1), 1) := by decide +kernel
theorem dX4_saves_75 : decode cX4_saves 75 = .ok (.goto 20, 3) := by decide +kernel
theorem dX4_saves_78 : decode cX4_saves 78 = .ok (.iload 4, 2) := by decide +kernel
theorem dX4_saves_80 : decode cX4_saves 80 = .ok (.iconst (-1), 1) := by decide +kernel
theorem dX4_saves_81 : decode cX4_saves 81 = .ok (.if_icmp .ne 9, 3) := by decide +kernel
theorem dX4_saves_84 : decode cX4_saves 84 = .ok (.sipush 1000, 3) := by decide +kernel
theorem dX4_saves_87 : decode cX4_saves 87 = .ok (.goto 8, 3) := by decide +kernel
theorem dX4_saves_90 : decode cX4_saves 90 = .ok (.iload 4, 2) := by decide +kernel
theorem dX4_saves_92 : decode cX4_saves 92 = .ok (.iload 5, 2) := by decide +kernel
theorem dX4_saves_94 : decode cX4_saves 94 = .ok (.isub, 1) := by decide +kernel
theorem dX4_saves_95 : decode cX4_saves 95 = .ok (.ireturn, 1) := by decide +kernel
set_option maxRecDepth 20000 in
theorem ggX4_digest_X4_ofNow : GoodIn wsX4_digest wsX4_ofNow := goodIn_r _ [10, 4, 11, 12, 9, 13, 14, 15, 16, 17, 18, 19, 20, 21, 22, 23, 24, 25, 26, 27, 28, 29, 30, 31, 32, 33, 34, 35, 36, 37, 38, 39, 40, 41, 42, 43, 44, 45, 93, 94, 95] (by decide +kernel) (by decide +kernel)
set_option maxRecDepth 20000 in
theorem gX4_digest_X4_ofNow : GoodIn wsX4_digest (wsV RX4 88 RX4 yX4_ofNow wsX4_ofNow) := goodIn_app (goodIn_of _ (by decide +kernel)) ggX4_digest_X4_ofNow
set_option maxRecDepth 20000 in
theorem ggX4_digest_X4_first : GoodIn wsX4_digest wsX4_first := goodIn_r _ [19] (by decide +kernel) (by decide +kernel)
set_option maxRecDepth 20000 in
theorem gX4_digest_X4_first : GoodIn wsX4_digest (va_wsS RX4 27 yX4_first wsX4_first) := goodIn_app (goodIn_of _ (by decide +kernel)) ggX4_digest_X4_first
set_option maxRecDepth 20000 in
theorem ggX4_digest_X4_spanNow : GoodIn wsX4_digest wsX4_spanNow := goodIn_r _ [48] (by decide +kernel) (by decide +kernel)
set_option maxRecDepth 20000 in
theorem gX4_digest_X4_spanNow : GoodIn wsX4_digest (va_wsS RX4 95 yX4_spanNow wsX4_spanNow) := goodIn_app (goodIn_of _ (by decide +kernel)) ggX4_digest_X4_spanNow
set_option maxRecDepth 20000 in
theorem ggX4_digest_X4_functionNow : GoodIn wsX4_digest wsX4_functionNow := goodIn_r _ [52, 5, 53, 54, 9, 55, 56, 57, 58, 59, 60, 61, 62, 39, 40, 41, 42, 63, 64, 65, 93, 94, 95] (by decide +kernel) (by decide +kernel)
set_option maxRecDepth 20000 in
theorem gX4_digest_X4_functionNow : GoodIn wsX4_digest (wsV RX4 133 RX4 yX4_functionNow wsX4_functionNow) := goodIn_app (goodIn_of _ (by decide +kernel)) ggX4_digest_X4_functionNow
set_option maxRecDepth 20000 in
theorem ggX4_digest_X4_thickerNow : GoodIn wsX4_digest wsX4_thickerNow := goodIn_r _ [69, 70, 71, 72, 9, 73, 4, 93, 94, 95] (by decide +kernel) (by decide +kernel)
set_option maxRecDepth 20000 in
theorem gX4_digest_X4_thickerNow : GoodIn wsX4_digest (wsV RX4 139 RX4 yX4_thickerNow wsX4_thickerNow) := goodIn_app (goodIn_of _ (by decide +kernel)) ggX4_digest_X4_thickerNow
set_option maxRecDepth 20000 in
theorem ggX4_digest_X4_pinsNow : GoodIn wsX4_digest wsX4_pinsNow := goodIn_r _ [77, 4, 29, 30, 9, 31, 78, 79, 80, 81, 93, 94, 95] (by decide +kernel) (by decide +kernel)
set_option maxRecDepth 20000 in
theorem gX4_digest_X4_pinsNow : GoodIn wsX4_digest (wsV RX4 158 RX4 yX4_pinsNow wsX4_pinsNow) := goodIn_app (goodIn_of _ (by decide +kernel)) ggX4_digest_X4_pinsNow
set_option maxRecDepth 20000 in
theorem ggX4_digest_X4_coverNow : GoodIn wsX4_digest wsX4_coverNow := goodIn_r _ [85, 59, 4, 86, 87, 88, 89, 17, 18, 9, 19, 93, 94, 95] (by decide +kernel) (by decide +kernel)
set_option maxRecDepth 20000 in
theorem gX4_digest_X4_coverNow : GoodIn wsX4_digest (wsV RX4 148 RX4 yX4_coverNow wsX4_coverNow) := goodIn_app (goodIn_of _ (by decide +kernel)) ggX4_digest_X4_coverNow
set_option maxRecDepth 20000 in
theorem ggX4_digest_X4_size : GoodIn wsX4_digest wsX4_size := goodIn_r _ [92] (by decide +kernel) (by decide +kernel)
set_option maxRecDepth 20000 in
theorem gX4_digest_X4_size : GoodIn wsX4_digest (va_wsS RX4 152 yX4_size wsX4_size) := goodIn_app (goodIn_of _ (by decide +kernel)) ggX4_digest_X4_size
theorem dX4_digest_0 : decode cX4_digest 0 = .ok (.aload_n 0, 1) := by decide +kernel
theorem dX4_digest_1 : decode cX4_digest 1 = .ok (.iconst 0, 1) := by decide +kernel
theorem dX4_digest_2 : decode cX4_digest 2 = .ok (.putfield 19, 3) := by decide +kernel
theorem dX4_digest_5 : decode cX4_digest 5 = .ok (.ldc2_w 168, 3) := by decide +kernel
theorem dX4_digest_8 : decode cX4_digest 8 = .ok (.lstore_n 1, 1) := by decide +kernel
theorem dX4_digest_9 : decode cX4_digest 9 = .ok (.iconst 0, 1) := by decide +kernel
theorem dX4_digest_10 : decode cX4_digest 10 = .ok (.istore_n 3, 1) := by decide +kernel
theorem dX4_digest_11 : decode cX4_digest 11 = .ok (.iload_n 3, 1) := by decide +kernel
theorem dX4_digest_12 : decode cX4_digest 12 = .ok (.bipush 8, 2) := by decide +kernel
theorem dX4_digest_14 : decode cX4_digest 14 = .ok (.if_icmp .ge 132, 3) := by decide +kernel
theorem dX4_digest_17 : decode cX4_digest 17 = .ok (.iconst 0, 1) := by decide +kernel
theorem dX4_digest_18 : decode cX4_digest 18 = .ok (.istore 4, 2) := by decide +kernel
theorem dX4_digest_20 : decode cX4_digest 20 = .ok (.iload 4, 2) := by decide +kernel
theorem dX4_digest_22 : decode cX4_digest 22 = .ok (.bipush 6, 2) := by decide +kernel
theorem dX4_digest_24 : decode cX4_digest 24 = .ok (.if_icmp .ge 24, 3) := by decide +kernel
theorem dX4_digest_27 : decode cX4_digest 27 = .ok (.lload_n 1, 1) := by decide +kernel
theorem dX4_digest_28 : decode cX4_digest 28 = .ok (.ldc2_w 170, 3) := by decide +kernel
theorem dX4_digest_31 : decode cX4_digest 31 = .ok (.lmul, 1) := by decide +kernel
theorem dX4_digest_32 : decode cX4_digest 32 = .ok (.aload_n 0, 1) := by decide +kernel
theorem dX4_digest_33 : decode cX4_digest 33 = .ok (.iload_n 3, 1) := by decide +kernel
theorem dX4_digest_34 : decode cX4_digest 34 = .ok (.iload 4, 2) := by decide +kernel
theorem dX4_digest_36 : decode cX4_digest 36 = .ok (.invokevirtual 88, 3) := by decide +kernel
theorem dX4_digest_39 : decode cX4_digest 39 = .ok (.i2l, 1) := by decide +kernel
theorem dX4_digest_40 : decode cX4_digest 40 = .ok (.ladd, 1) := by decide +kernel
theorem dX4_digest_41 : decode cX4_digest 41 = .ok (.lstore_n 1, 1) := by decide +kernel
theorem dX4_digest_42 : decode cX4_digest 42 = .ok (.iinc 4 1, 3) := by decide +kernel
theorem dX4_digest_45 : decode cX4_digest 45 = .ok (.goto (-25), 3) := by decide +kernel
theorem dX4_digest_48 : decode cX4_digest 48 = .ok (.aload_n 0, 1) := by decide +kernel
theorem dX4_digest_49 : decode cX4_digest 49 = .ok (.getfield 11, 3) := by decide +kernel
theorem dX4_digest_52 : decode cX4_digest 52 = .ok (.iload_n 3, 1) := by decide +kernel
theorem dX4_digest_53 : decode cX4_digest 53 = .ok (.aaload, 1) := by decide +kernel
theorem dX4_digest_54 : decode cX4_digest 54 = .ok (.iconst 0, 1) := by decide +kernel
theorem dX4_digest_55 : decode cX4_digest 55 = .ok (.iconst 1, 1) := by decide +kernel
theorem dX4_digest_56 : decode cX4_digest 56 = .ok (.invokestatic 27, 3) := by decide +kernel
theorem dX4_digest_59 : decode cX4_digest 59 = .ok (.istore 4, 2) := by decide +kernel
theorem dX4_digest_61 : decode cX4_digest 61 = .ok (.iload 4, 2) := by decide +kernel
theorem dX4_digest_63 : decode cX4_digest 63 = .ok (.sipush 201, 3) := by decide +kernel
theorem dX4_digest_66 : decode cX4_digest 66 = .ok (.if_icmp .ge 74, 3) := by decide +kernel
theorem dX4_digest_69 : decode cX4_digest 69 = .ok (.iconst 0, 1) := by decide +kernel
theorem dX4_digest_70 : decode cX4_digest 70 = .ok (.istore 5, 2) := by decide +kernel
theorem dX4_digest_72 : decode cX4_digest 72 = .ok (.iload 5, 2) := by decide +kernel
theorem dX4_digest_74 : decode cX4_digest 74 = .ok (.iconst 3, 1) := by decide +kernel
theorem dX4_digest_75 : decode cX4_digest 75 = .ok (.if_icmp .ge 38, 3) := by decide +kernel
theorem dX4_digest_78 : decode cX4_digest 78 = .ok (.lload_n 1, 1) := by decide +kernel
theorem dX4_digest_79 : decode cX4_digest 79 = .ok (.ldc2_w 170, 3) := by decide +kernel
theorem dX4_digest_82 : decode cX4_digest 82 = .ok (.lmul, 1) := by decide +kernel
theorem dX4_digest_83 : decode cX4_digest 83 = .ok (.iload 4, 2) := by decide +kernel
theorem dX4_digest_85 : decode cX4_digest 85 = .ok (.aload_n 0, 1) := by decide +kernel
theorem dX4_digest_86 : decode cX4_digest 86 = .ok (.getfield 11, 3) := by decide +kernel
theorem dX4_digest_89 : decode cX4_digest 89 = .ok (.iload_n 3, 1) := by decide +kernel
theorem dX4_digest_90 : decode cX4_digest 90 = .ok (.aaload, 1) := by decide +kernel
theorem dX4_digest_91 : decode cX4_digest 91 = .ok (.iload 4, 2) := by decide +kernel
theorem dX4_digest_93 : decode cX4_digest 93 = .ok (.iconst 0, 1) := by decide +kernel
theorem dX4_digest_94 : decode cX4_digest 94 = .ok (.invokestatic 27, 3) := by decide +kernel
theorem dX4_digest_97 : decode cX4_digest 97 = .ok (.iconst 1, 1) := by decide +kernel
theorem dX4_digest_98 : decode cX4_digest 98 = .ok (.isub, 1) := by decide +kernel
theorem dX4_digest_99 : decode cX4_digest 99 = .ok (.iload 5, 2) := by decide +kernel
theorem dX4_digest_101 : decode cX4_digest 101 = .ok (.invokestatic 95, 3) := by decide +kernel
theorem dX4_digest_104 : decode cX4_digest 104 = .ok (.i2l, 1) := by decide +kernel
theorem dX4_digest_105 : decode cX4_digest 105 = .ok (.ladd, 1) := by decide +kernel
theorem dX4_digest_106 : decode cX4_digest 106 = .ok (.lstore_n 1, 1) := by decide +kernel
theorem dX4_digest_107 : decode cX4_digest 107 = .ok (.iinc 5 1, 3) := by decide +kernel
theorem dX4_digest_110 : decode cX4_digest 110 = .ok (.goto (-38), 3) := by decide +kernel
theorem dX4_digest_113 : decode cX4_digest 113 = .ok (.aload_n 0, 1) := by decide +kernel
theorem dX4_digest_114 : decode cX4_digest 114 = .ok (.getfield 11, 3) := by decide +kernel
theorem dX4_digest_117 : decode cX4_digest 117 = .ok (.iload_n 3, 1) := by decide +kernel
theorem dX4_digest_118 : decode cX4_digest 118 = .ok (.aaload, 1) := by decide +kernel
theorem dX4_digest_119 : decode cX4_digest 119 = .ok (.aload_n 0, 1) := by decide +kernel
theorem dX4_digest_120 : decode cX4_digest 120 = .ok (.getfield 11, 3) := by decide +kernel
theorem dX4_digest_123 : decode cX4_digest 123 = .ok (.iload_n 3, 1) := by decide +kernel
theorem dX4_digest_124 : decode cX4_digest 124 = .ok (.aaload, 1) := by decide +kernel
theorem dX4_digest_125 : decode cX4_digest 125 = .ok (.iload 4, 2) := by decide +kernel
theorem dX4_digest_127 : decode cX4_digest 127 = .ok (.iconst 0, 1) := by decide +kernel
theorem dX4_digest_128 : decode cX4_digest 128 = .ok (.invokestatic 27, 3) := by decide +kernel
theorem dX4_digest_131 : decode cX4_digest 131 = .ok (.iconst 1, 1) := by decide +kernel
theorem dX4_digest_132 : decode cX4_digest 132 = .ok (.invokestatic 27, 3) := by decide +kernel
theorem dX4_digest_135 : decode cX4_digest 135 = .ok (.istore 4, 2) := by decide +kernel
theorem dX4_digest_137 : decode cX4_digest 137 = .ok (.goto (-76), 3) := by decide +kernel
theorem dX4_digest_140 : decode cX4_digest 140 = .ok (.iinc 3 1, 3) := by decide +kernel
theorem dX4_digest_143 : decode cX4_digest 143 = .ok (.goto (-132), 3) := by decide +kernel
theorem dX4_digest_146 : decode cX4_digest 146 = .ok (.iconst 0, 1) := by decide +kernel
theorem dX4_digest_147 : decode cX4_digest 147 = .ok (.istore_n 3, 1) := by decide +kernel
theorem dX4_digest_148 : decode cX4_digest 148 = .ok (.iload_n 3, 1) := by decide +kernel
theorem dX4_digest_149 : decode cX4_digest 149 = .ok (.iconst 5, 1) := by decide +kernel
theorem dX4_digest_150 : decode cX4_digest 150 = .ok (.if_icmp .ge 85, 3) := by decide +kernel
theorem dX4_digest_153 : decode cX4_digest 153 = .ok (.iconst 0, 1) := by decide +kernel
theorem dX4_digest_154 : decode cX4_digest 154 = .ok (.istore 4, 2) := by decide +kernel
theorem dX4_digest_156 : decode cX4_digest 156 = .ok (.iload 4, 2) := by decide +kernel
theorem dX4_digest_158 : decode cX4_digest 158 = .ok (.iconst 5, 1) := by decide +kernel
theorem dX4_digest_159 : decode cX4_digest 159 = .ok (.if_icmp .ge 24, 3) := by decide +kernel
theorem dX4_digest_162 : decode cX4_digest 162 = .ok (.lload_n 1, 1) := by decide +kernel
theorem dX4_digest_163 : decode cX4_digest 163 = .ok (.ldc2_w 170, 3) := by decide +kernel
theorem dX4_digest_166 : decode cX4_digest 166 = .ok (.lmul, 1) := by decide +kernel
theorem dX4_digest_167 : decode cX4_digest 167 = .ok (.aload_n 0, 1) := by decide +kernel
theorem dX4_digest_168 : decode cX4_digest 168 = .ok (.iload_n 3, 1) := by decide +kernel
theorem dX4_digest_169 : decode cX4_digest 169 = .ok (.iload 4, 2) := by decide +kernel
theorem dX4_digest_171 : decode cX4_digest 171 = .ok (.invokevirtual 133, 3) := by decide +kernel
theorem dX4_digest_174 : decode cX4_digest 174 = .ok (.i2l, 1) := by decide +kernel
theorem dX4_digest_175 : decode cX4_digest 175 = .ok (.ladd, 1) := by decide +kernel
theorem dX4_digest_176 : decode cX4_digest 176 = .ok (.lstore_n 1, 1) := by decide +kernel
theorem dX4_digest_177 : decode cX4_digest 177 = .ok (.iinc 4 1, 3) := by decide +kernel
theorem dX4_digest_180 : decode cX4_digest 180 = .ok (.goto (-24), 3) := by decide +kernel
theorem dX4_digest_183 : decode cX4_digest 183 = .ok (.aload_n 0, 1) := by decide +kernel
theorem dX4_digest_184 : decode cX4_digest 184 = .ok (.getfield 16, 3) := by decide +kernel
theorem dX4_digest_187 : decode cX4_digest 187 = .ok (.iload_n 3, 1) := by decide +kernel
theorem dX4_digest_188 : decode cX4_digest 188 = .ok (.aaload, 1) := by decide +kernel
theorem dX4_digest_189 : decode cX4_digest 189 = .ok (.astore 4, 2) := by decide +kernel
theorem dX4_digest_191 : decode cX4_digest 191 = .ok (.aload 4, 2) := by decide +kernel
theorem dX4_digest_193 : decode cX4_digest 193 = .ok (.arraylength, 1) := by decide +kernel
theorem dX4_digest_194 : decode cX4_digest 194 = .ok (.istore 5, 2) := by decide +kernel
theorem dX4_digest_196 : decode cX4_digest 196 = .ok (.iconst 0, 1) := by decide +kernel
theorem dX4_digest_197 : decode cX4_digest 197 = .ok (.istore 6, 2) := by decide +kernel
theorem dX4_digest_199 : decode cX4_digest 199 = .ok (.iload 6, 2) := by decide +kernel
theorem dX4_digest_201 : decode cX4_digest 201 = .ok (.iload 5, 2) := by decide +kernel
theorem dX4_digest_203 : decode cX4_digest 203 = .ok (.if_icmp .ge 26, 3) := by decide +kernel
theorem dX4_digest_206 : decode cX4_digest 206 = .ok (.aload 4, 2) := by decide +kernel
theorem dX4_digest_208 : decode cX4_digest 208 = .ok (.iload 6, 2) := by decide +kernel
theorem dX4_digest_210 : decode cX4_digest 210 = .ok (.iaload, 1) := by decide +kernel
theorem dX4_digest_211 : decode cX4_digest 211 = .ok (.istore 7, 2) := by decide +kernel
theorem dX4_digest_213 : decode cX4_digest 213 = .ok (.lload_n 1, 1) := by decide +kernel
theorem dX4_digest_214 : decode cX4_digest 214 = .ok (.ldc2_w 170, 3) := by decide +kernel
theorem dX4_digest_217 : decode cX4_digest 217 = .ok (.lmul, 1) := by decide +kernel
theorem dX4_digest_218 : decode cX4_digest 218 = .ok (.iload 7, 2) := by decide +kernel
theorem dX4_digest_220 : decode cX4_digest 220 = .ok (.i2l, 1) := by decide +kernel
theorem dX4_digest_221 : decode cX4_digest 221 = .ok (.ladd, 1) := by decide +kernel
theorem dX4_digest_222 : decode cX4_digest 222 = .ok (.lstore_n 1, 1) := by decide +kernel
theorem dX4_digest_223 : decode cX4_digest 223 = .ok (.iinc 6 1, 3) := by decide +kernel
theorem dX4_digest_226 : decode cX4_digest 226 = .ok (.goto (-27), 3) := by decide +kernel
theorem dX4_digest_229 : decode cX4_digest 229 = .ok (.iinc 3 1, 3) := by decide +kernel
theorem dX4_digest_232 : decode cX4_digest 232 = .ok (.goto (-84), 3) := by decide +kernel
theorem dX4_digest_235 : decode cX4_digest 235 = .ok (.lload_n 1, 1) := by decide +kernel
theorem dX4_digest_236 : decode cX4_digest 236 = .ok (.ldc2_w 170, 3) := by decide +kernel
theorem dX4_digest_239 : decode cX4_digest 239 = .ok (.lmul, 1) := by decide +kernel
theorem dX4_digest_240 : decode cX4_digest 240 = .ok (.aload_n 0, 1) := by decide +kernel
theorem dX4_digest_241 : decode cX4_digest 241 = .ok (.sipush 255, 3) := by decide +kernel
theorem dX4_digest_244 : decode cX4_digest 244 = .ok (.iconst 1, 1) := by decide +kernel
theorem dX4_digest_245 : decode cX4_digest 245 = .ok (.invokevirtual 139, 3) := by decide +kernel
theorem dX4_digest_248 : decode cX4_digest 248 = .ok (.i2l, 1) := by decide +kernel
theorem dX4_digest_249 : decode cX4_digest 249 = .ok (.ladd, 1) := by decide +kernel
theorem dX4_digest_250 : decode cX4_digest 250 = .ok (.ldc2_w 170, 3) := by decide +kernel
theorem dX4_digest_253 : decode cX4_digest 253 = .ok (.lmul, 1) := by decide +kernel
theorem dX4_digest_254 : decode cX4_digest 254 = .ok (.aload_n 0, 1) := by decide +kernel
theorem dX4_digest_255 : decode cX4_digest 255 = .ok (.sipush 255, 3) := by decide +kernel
theorem dX4_digest_258 : decode cX4_digest 258 = .ok (.iconst 2, 1) := by decide +kernel
theorem dX4_digest_259 : decode cX4_digest 259 = .ok (.invokevirtual 139, 3) := by decide +kernel
theorem dX4_digest_262 : decode cX4_digest 262 = .ok (.i2l, 1) := by decide +kernel
theorem dX4_digest_263 : decode cX4_digest 263 = .ok (.ladd, 1) := by decide +kernel
theorem dX4_digest_264 : decode cX4_digest 264 = .ok (.ldc2_w 170, 3) := by decide +kernel
theorem dX4_digest_267 : decode cX4_digest 267 = .ok (.lmul, 1) := by decide +kernel
theorem dX4_digest_268 : decode cX4_digest 268 = .ok (.aload_n 0, 1) := by decide +kernel
theorem dX4_digest_269 : decode cX4_digest 269 = .ok (.sipush 255, 3) := by decide +kernel
theorem dX4_digest_272 : decode cX4_digest 272 = .ok (.invokevirtual 158, 3) := by decide +kernel
theorem dX4_digest_275 : decode cX4_digest 275 = .ok (.i2l, 1) := by decide +kernel
theorem dX4_digest_276 : decode cX4_digest 276 = .ok (.ladd, 1) := by decide +kernel
theorem dX4_digest_277 : decode cX4_digest 277 = .ok (.ldc2_w 170, 3) := by decide +kernel
theorem dX4_digest_280 : decode cX4_digest 280 = .ok (.lmul, 1) := by decide +kernel
theorem dX4_digest_281 : decode cX4_digest 281 = .ok (.aload_n 0, 1) := by decide +kernel
theorem dX4_digest_282 : decode cX4_digest 282 = .ok (.sipush 255, 3) := by decide +kernel
theorem dX4_digest_285 : decode cX4_digest 285 = .ok (.invokevirtual 158, 3) := by decide +kernel
theorem dX4_digest_288 : decode cX4_digest 288 = .ok (.i2l, 1) := by decide +kernel
theorem dX4_digest_289 : decode cX4_digest 289 = .ok (.ladd, 1) := by decide +kernel
theorem dX4_digest_290 : decode cX4_digest 290 = .ok (.lstore_n 1, 1) := by decide +kernel
theorem dX4_digest_291 : decode cX4_digest 291 = .ok (.iconst 0, 1) := by decide +kernel
theorem dX4_digest_292 : decode cX4_digest 292 = .ok (.istore_n 3, 1) := by decide +kernel
theorem dX4_digest_293 : decode cX4_digest 293 = .ok (.iload_n 3, 1) := by decide +kernel
theorem dX4_digest_294 : decode cX4_digest 294 = .ok (.bipush 8, 2) := by decide +kernel
theorem dX4_digest_296 : decode cX4_digest 296 = .ok (.if_icmp .ge 32, 3) := by decide +kernel
theorem dX4_digest_299 : decode cX4_digest 299 = .ok (.lload_n 1, 1) := by decide +kernel
theorem dX4_digest_300 : decode cX4_digest 300 = .ok (.ldc2_w 170, 3) := by decide +kernel
theorem dX4_digest_303 : decode cX4_digest 303 = .ok (.lmul, 1) := by decide +kernel
theorem dX4_digest_304 : decode cX4_digest 304 = .ok (.aload_n 0, 1) := by decide +kernel
theorem dX4_digest_305 : decode cX4_digest 305 = .ok (.sipush 255, 3) := by decide +kernel
theorem dX4_digest_308 : decode cX4_digest 308 = .ok (.iconst 1, 1) := by decide +kernel
theorem dX4_digest_309 : decode cX4_digest 309 = .ok (.iload_n 3, 1) := by decide +kernel
theorem dX4_digest_310 : decode cX4_digest 310 = .ok (.ishl, 1) := by decide +kernel
theorem dX4_digest_311 : decode cX4_digest 311 = .ok (.isub, 1) := by decide +kernel
theorem dX4_digest_312 : decode cX4_digest 312 = .ok (.iload_n 3, 1) := by decide +kernel
theorem dX4_digest_313 : decode cX4_digest 313 = .ok (.invokevirtual 148, 3) := by decide +kernel
theorem dX4_digest_316 : decode cX4_digest 316 = .ok (.invokestatic 152, 3) := by decide +kernel
theorem dX4_digest_319 : decode cX4_digest 319 = .ok (.i2l, 1) := by decide +kernel
theorem dX4_digest_320 : decode cX4_digest 320 = .ok (.ladd, 1) := by decide +kernel
theorem dX4_digest_321 : decode cX4_digest 321 = .ok (.lstore_n 1, 1) := by decide +kernel
theorem dX4_digest_322 : decode cX4_digest 322 = .ok (.iinc 3 1, 3) := by decide +kernel
theorem dX4_digest_325 : decode cX4_digest 325 = .ok (.goto (-32), 3) := by decide +kernel
theorem dX4_digest_328 : decode cX4_digest 328 = .ok (.lload_n 1, 1) := by decide +kernel
theorem dX4_digest_329 : decode cX4_digest 329 = .ok (.lreturn, 1) := by decide +kernel
theorem dJ9_max_7cf53_0 : decode cJ9_max_7cf53 0 = .ok (.iload_n 0, 1) := by decide +kernel
theorem dJ9_max_7cf53_1 : decode cJ9_max_7cf53 1 = .ok (.iload_n 1, 1) := by decide +kernel
theorem dJ9_max_7cf53_2 : decode cJ9_max_7cf53 2 = .ok (.if_icmp .lt 7, 3) := by decide +kernel
theorem dJ9_max_7cf53_5 : decode cJ9_max_7cf53 5 = .ok (.iload_n 0, 1) := by decide +kernel
theorem dJ9_max_7cf53_6 : decode cJ9_max_7cf53 6 = .ok (.goto 4, 3) := by decide +kernel
theorem dJ9_max_7cf53_9 : decode cJ9_max_7cf53 9 = .ok (.iload_n 1, 1) := by decide +kernel
theorem dJ9_max_7cf53_10 : decode cJ9_max_7cf53 10 = .ok (.ireturn, 1) := by decide +kernel
theorem dJ9_min_7cf53_0 : decode cJ9_min_7cf53 0 = .ok (.iload_n 0, 1) := by decide +kernel
theorem dJ9_min_7cf53_1 : decode cJ9_min_7cf53 1 = .ok (.iload_n 1, 1) := by decide +kernel
theorem dJ9_min_7cf53_2 : decode cJ9_min_7cf53 2 = .ok (.if_icmp .gt 7, 3) := by decide +kernel
theorem dJ9_min_7cf53_5 : decode cJ9_min_7cf53 5 = .ok (.iload_n 0, 1) := by decide +kernel
theorem dJ9_min_7cf53_6 : decode cJ9_min_7cf53 6 = .ok (.goto 4, 3) := by decide +kernel
theorem dJ9_min_7cf53_9 : decode cJ9_min_7cf53 9 = .ok (.iload_n 1, 1) := by decide +kernel
theorem dJ9_min_7cf53_10 : decode cJ9_min_7cf53 10 = .ok (.ireturn, 1) := by decide +kernel
set_option maxRecDepth 20000 in
theorem ggL_span_X3_span : GoodIn wsL_span wsX3_span := goodIn_ca (goodIn_ca (goodIn_r _ [7, 8, 9, 10, 6, 11, 12, 13, 14, 15, 16, 17, 18, 19, 20, 21, 22, 23, 24, 25, 26, 27, 28, 29, 30, 31, 32, 33, 34, 35, 36, 37, 38, 39, 40, 41, 42, 43, 44, 45, 46, 47, 48, 49, 50, 51, 52, 53, 54, 55, 56, 57] (by decide +kernel) (by decide +kernel)) (goodIn_sub (fun _ h => List.mem_cons_of_mem _ (List.mem_append_left _ (List.mem_append_right _ h))) (by decide +kernel))) (goodIn_sub (fun _ h => List.mem_cons_of_mem _ (List.mem_append_right _ h)) (by decide +kernel))
set_option maxRecDepth 20000 in
theorem gL_span_X3_span : GoodIn wsL_span (wsV RL 7 RX3 yX3_span wsX3_span) := goodIn_app (goodIn_of _ (by decide +kernel)) ggL_span_X3_span
