theorem dX3_init_0 : decode cX3_init 0 = .ok (.aload_n 0, 1) := by decide +kernel
theorem dX3_init_1 : decode cX3_init 1 = .ok (.invokespecial 3, 3) := by decide +kernel
theorem dX3_init_4 : decode cX3_init 4 = .ok (.aload_n 0, 1) := by decide +kernel
theorem dX3_init_5 : decode cX3_init 5 = .ok (.bipush 8, 2) := by decide +kernel
theorem dX3_init_7 : decode cX3_init 7 = .ok (.anewarray 9, 3) := by decide +kernel
theorem dX3_init_10 : decode cX3_init 10 = .ok (.putfield 11, 3) := by decide +kernel
theorem dX3_init_13 : decode cX3_init 13 = .ok (.aload_n 0, 1) := by decide +kernel
theorem dX3_init_14 : decode cX3_init 14 = .ok (.iconst 5, 1) := by decide +kernel
theorem dX3_init_15 : decode cX3_init 15 = .ok (.anewarray 15, 3) := by decide +kernel
theorem dX3_init_18 : decode cX3_init 18 = .ok (.putfield 17, 3) := by decide +kernel
theorem dX3_init_21 : decode cX3_init 21 = .ok (.aload_n 0, 1) := by decide +kernel
theorem dX3_init_22 : decode cX3_init 22 = .ok (.new 9, 3) := by decide +kernel
theorem dX3_init_25 : decode cX3_init 25 = .ok (.dup, 1) := by decide +kernel
theorem dX3_init_26 : decode cX3_init 26 = .ok (.invokespecial 21, 3) := by decide +kernel
theorem dX3_init_29 : decode cX3_init 29 = .ok (.putfield 22, 3) := by decide +kernel
theorem dX3_init_32 : decode cX3_init 32 = .ok (.aload_n 0, 1) := by decide +kernel
theorem dX3_init_33 : decode cX3_init 33 = .ok (.new 15, 3) := by decide +kernel
theorem dX3_init_36 : decode cX3_init 36 = .ok (.dup, 1) := by decide +kernel
theorem dX3_init_37 : decode cX3_init 37 = .ok (.invokespecial 26, 3) := by decide +kernel
theorem dX3_init_40 : decode cX3_init 40 = .ok (.putfield 27, 3) := by decide +kernel
theorem dX3_init_43 : decode cX3_init 43 = .ok (.aload_n 0, 1) := by decide +kernel
theorem dX3_init_44 : decode cX3_init 44 = .ok (.new 31, 3) := by decide +kernel
theorem dX3_init_47 : decode cX3_init 47 = .ok (.dup, 1) := by decide +kernel
theorem dX3_init_48 : decode cX3_init 48 = .ok (.invokespecial 33, 3) := by decide +kernel
theorem dX3_init_51 : decode cX3_init 51 = .ok (.putfield 34, 3) := by decide +kernel
theorem dX3_init_54 : decode cX3_init 54 = .ok (.aload_n 0, 1) := by decide +kernel
theorem dX3_init_55 : decode cX3_init 55 = .ok (.sipush 201, 3) := by decide +kernel
theorem dX3_init_58 : decode cX3_init 58 = .ok (.newarray .int, 2) := by decide +kernel
theorem dX3_init_60 : decode cX3_init 60 = .ok (.putfield 38, 3) := by decide +kernel
theorem dX3_init_63 : decode cX3_init 63 = .ok (.iconst 0, 1) := by decide +kernel
theorem dX3_init_64 : decode cX3_init 64 = .ok (.istore_n 1, 1) := by decide +kernel
theorem dX3_init_65 : decode cX3_init 65 = .ok (.iload_n 1, 1) := by decide +kernel
theorem dX3_init_66 : decode cX3_init 66 = .ok (.aload_n 0, 1) := by decide +kernel
theorem dX3_init_67 : decode cX3_init 67 = .ok (.getfield 11, 3) := by decide +kernel
theorem dX3_init_70 : decode cX3_init 70 = .ok (.arraylength, 1) := by decide +kernel
theorem dX3_init_71 : decode cX3_init 71 = .ok (.if_icmp .ge 22, 3) := by decide +kernel
theorem dX3_init_74 : decode cX3_init 74 = .ok (.aload_n 0, 1) := by decide +kernel
theorem dX3_init_75 : decode cX3_init 75 = .ok (.getfield 11, 3) := by decide +kernel
theorem dX3_init_78 : decode cX3_init 78 = .ok (.iload_n 1, 1) := by decide +kernel
theorem dX3_init_79 : decode cX3_init 79 = .ok (.new 9, 3) := by decide +kernel
theorem dX3_init_82 : decode cX3_init 82 = .ok (.dup, 1) := by decide +kernel
theorem dX3_init_83 : decode cX3_init 83 = .ok (.invokespecial 21, 3) := by decide +kernel
theorem dX3_init_86 : decode cX3_init 86 = .ok (.aastore, 1) := by decide +kernel
theorem dX3_init_87 : decode cX3_init 87 = .ok (.iinc 1 1, 3) := by decide +kernel
theorem dX3_init_90 : decode cX3_init 90 = .ok (.goto (-25), 3) := by decide +kernel
theorem dX3_init_93 : decode cX3_init 93 = .ok (.iconst 0, 1) := by decide +kernel
theorem dX3_init_94 : decode cX3_init 94 = .ok (.istore_n 1, 1) := by decide +kernel
theorem dX3_init_95 : decode cX3_init 95 = .ok (.iload_n 1, 1) := by decide +kernel
theorem dX3_init_96 : decode cX3_init 96 = .ok (.aload_n 0, 1) := by decide +kernel
theorem dX3_init_97 : decode cX3_init 97 = .ok (.getfield 17, 3) := by decide +kernel
theorem dX3_init_100 : decode cX3_init 100 = .ok (.arraylength, 1) := by decide +kernel
theorem dX3_init_101 : decode cX3_init 101 = .ok (.if_icmp .ge 22, 3) := by decide +kernel
theorem dX3_init_104 : decode cX3_init 104 = .ok (.aload_n 0, 1) := by decide +kernel
theorem dX3_init_105 : decode cX3_init 105 = .ok (.getfield 17, 3) := by decide +kernel
theorem dX3_init_108 : decode cX3_init 108 = .ok (.iload_n 1, 1) := by decide +kernel
theorem dX3_init_109 : decode cX3_init 109 = .ok (.new 15, 3) := by decide +kernel
theorem dX3_init_112 : decode cX3_init 112 = .ok (.dup, 1) := by decide +kernel
theorem dX3_init_113 : decode cX3_init 113 = .ok (.invokespecial 26, 3) := by decide +kernel
theorem dX3_init_116 : decode cX3_init 116 = .ok (.aastore, 1) := by decide +kernel
theorem dX3_init_117 : decode cX3_init 117 = .ok (.iinc 1 1, 3) := by decide +kernel
theorem dX3_init_120 : decode cX3_init 120 = .ok (.goto (-25), 3) := by decide +kernel
theorem dX3_init_123 : decode cX3_init 123 = .ok (.return_, 1) := by decide +kernel
set_option maxRecDepth 20000 in
theorem ggX3_span_X3_setAt : GoodIn wsX3_span wsX3_setAt := goodIn_ca (goodIn_r _ [5, 6, 7, 8, 9, 10, 4, 11, 12, 45, 46, 47, 48, 49, 50] (by decide +kernel) (by decide +kernel)) (goodIn_sub (fun _ h => List.mem_cons_of_mem _ (List.mem_append_left _ (List.mem_append_right _ h))) (by decide +kernel))
set_option maxRecDepth 20000 in
theorem gX3_span_X3_setAt : GoodIn wsX3_span (wsV RX3 42 RX3 yX3_setAt wsX3_setAt) := goodIn_app (goodIn_of _ (by decide +kernel)) ggX3_span_X3_setAt
set_option maxRecDepth 20000 in
theorem ggX3_span_X3_checkSpan : GoodIn wsX3_span wsX3_checkSpan := goodIn_ca (goodIn_r _ [15, 16, 17, 18, 19, 4, 20] (by decide +kernel) (by decide +kernel)) (goodIn_sub (fun _ h => List.mem_cons_of_mem _ (List.mem_append_right _ h)) (by decide +kernel))
set_option maxRecDepth 20000 in
theorem gX3_span_X3_checkSpan : GoodIn wsX3_span (va_wsS RX3 46 yX3_checkSpan wsX3_checkSpan) := goodIn_app (goodIn_of _ (by decide +kernel)) ggX3_span_X3_checkSpan
set_option maxRecDepth 20000 in
theorem ggX3_span_X3_firstGrain : GoodIn wsX3_span wsX3_firstGrain := goodIn_r _ [23] (by decide +kernel) (by decide +kernel)
set_option maxRecDepth 20000 in
theorem gX3_span_X3_firstGrain : GoodIn wsX3_span (va_wsS RX3 50 yX3_firstGrain wsX3_firstGrain) := goodIn_app (goodIn_of _ (by decide +kernel)) ggX3_span_X3_firstGrain
set_option maxRecDepth 20000 in
theorem ggX3_span_X3_lastGrain : GoodIn wsX3_span wsX3_lastGrain := goodIn_r _ [26] (by decide +kernel) (by decide +kernel)
set_option maxRecDepth 20000 in
theorem gX3_span_X3_lastGrain : GoodIn wsX3_span (va_wsS RX3 54 yX3_lastGrain wsX3_lastGrain) := goodIn_app (goodIn_of _ (by decide +kernel)) ggX3_span_X3_lastGrain
set_option maxRecDepth 20000 in
theorem ggX3_span_X0_fill : GoodIn wsX3_span wsX0_fill := goodIn_r _ [31, 32, 33, 34, 35, 36, 37, 38, 30, 39, 40, 41, 42, 43, 44, 51] (by decide +kernel) (by decide +kernel)
set_option maxRecDepth 20000 in
theorem gX3_span_X0_fill : GoodIn wsX3_span (wsV RX3 57 RX0 yX0_fill wsX0_fill) := goodIn_app (goodIn_of _ (by decide +kernel)) ggX3_span_X0_fill
theorem dX3_span_0 : decode cX3_span 0 = .ok (.aload_n 0, 1) := by decide +kernel
theorem dX3_span_1 : decode cX3_span 1 = .ok (.iload_n 1, 1) := by decide +kernel
theorem dX3_span_2 : decode cX3_span 2 = .ok (.invokevirtual 42, 3) := by decide +kernel
theorem dX3_span_5 : decode cX3_span 5 = .ok (.astore 6, 2) := by decide +kernel
theorem dX3_span_7 : decode cX3_span 7 = .ok (.iload_n 2, 1) := by decide +kernel
theorem dX3_span_8 : decode cX3_span 8 = .ok (.iload_n 3, 1) := by decide +kernel
theorem dX3_span_9 : decode cX3_span 9 = .ok (.iload 4, 2) := by decide +kernel
theorem dX3_span_11 : decode cX3_span 11 = .ok (.invokestatic 46, 3) := by decide +kernel
theorem dX3_span_14 : decode cX3_span 14 = .ok (.aload 6, 2) := by decide +kernel
theorem dX3_span_16 : decode cX3_span 16 = .ok (.iload_n 2, 1) := by decide +kernel
theorem dX3_span_17 : decode cX3_span 17 = .ok (.iload_n 3, 1) := by decide +kernel
theorem dX3_span_18 : decode cX3_span 18 = .ok (.iload 4, 2) := by decide +kernel
theorem dX3_span_20 : decode cX3_span 20 = .ok (.invokestatic 50, 3) := by decide +kernel
theorem dX3_span_23 : decode cX3_span 23 = .ok (.iload_n 2, 1) := by decide +kernel
theorem dX3_span_24 : decode cX3_span 24 = .ok (.iload_n 3, 1) := by decide +kernel
theorem dX3_span_25 : decode cX3_span 25 = .ok (.iload 4, 2) := by decide +kernel
theorem dX3_span_27 : decode cX3_span 27 = .ok (.invokestatic 54, 3) := by decide +kernel
theorem dX3_span_30 : decode cX3_span 30 = .ok (.iload 5, 2) := by decide +kernel
theorem dX3_span_32 : decode cX3_span 32 = .ok (.invokevirtual 57, 3) := by decide +kernel
theorem dX3_span_35 : decode cX3_span 35 = .ok (.ireturn, 1) := by decide +kernel
set_option maxRecDepth 20000 in
theorem ggX3_join_X3_setAt : GoodIn wsX3_join wsX3_setAt := goodIn_ca (goodIn_r _ [5, 6, 7, 8, 9, 10, 4, 11, 12, 36, 37, 38, 39, 40, 41] (by decide +kernel) (by decide +kernel)) (goodIn_sub (fun _ h => List.mem_cons_of_mem _ (List.mem_append_left _ (List.mem_append_right _ h))) (by decide +kernel))
set_option maxRecDepth 20000 in
theorem gX3_join_X3_setAt : GoodIn wsX3_join (wsV RX3 42 RX3 yX3_setAt wsX3_setAt) := goodIn_app (goodIn_of _ (by decide +kernel)) ggX3_join_X3_setAt
set_option maxRecDepth 20000 in
theorem ggX3_join_X3_checkChoice : GoodIn wsX3_join wsX3_checkChoice := goodIn_ca (goodIn_r _ [15, 16, 17] (by decide +kernel) (by decide +kernel)) (goodIn_sub (fun _ h => List.mem_cons_of_mem _ (List.mem_append_right _ h)) (by decide +kernel))
set_option maxRecDepth 20000 in
theorem gX3_join_X3_checkChoice : GoodIn wsX3_join (va_wsS RX3 61 yX3_checkChoice wsX3_checkChoice) := goodIn_app (goodIn_of _ (by decide +kernel)) ggX3_join_X3_checkChoice
set_option maxRecDepth 20000 in
theorem ggX3_join_X0_holds : GoodIn wsX3_join wsX0_holds := goodIn_r _ [22, 23, 42] (by decide +kernel) (by decide +kernel)
set_option maxRecDepth 20000 in
theorem gX3_join_X0_holds : GoodIn wsX3_join (wsV RX3 65 RX0 yX0_holds wsX0_holds) := goodIn_app (goodIn_of _ (by decide +kernel)) ggX3_join_X0_holds
set_option maxRecDepth 20000 in
theorem ggX3_join_X3_isJoined : GoodIn wsX3_join wsX3_isJoined := goodIn_r _ [26] (by decide +kernel) (by decide +kernel)
set_option maxRecDepth 20000 in
theorem gX3_join_X3_isJoined : GoodIn wsX3_join (va_wsS RX3 69 yX3_isJoined wsX3_isJoined) := goodIn_app (goodIn_of _ (by decide +kernel)) ggX3_join_X3_isJoined
set_option maxRecDepth 20000 in
theorem ggX3_join_X0_write : GoodIn wsX3_join wsX0_write := goodIn_r _ [30, 23, 42] (by decide +kernel) (by decide +kernel)
set_option maxRecDepth 20000 in
theorem gX3_join_X0_write : GoodIn wsX3_join (wsV RX3 73 RX0 yX0_write wsX0_write) := goodIn_app (goodIn_of _ (by decide +kernel)) ggX3_join_X0_write
set_option maxRecDepth 20000 in
theorem ggX3_join_X0_count : GoodIn wsX3_join wsX0_count := goodIn_r _ [34, 35, 19, 20, 21, 22, 23, 42] (by decide +kernel) (by decide +kernel)
set_option maxRecDepth 20000 in
theorem gX3_join_X0_count : GoodIn wsX3_join (wsV RX3 77 RX0 yX0_count wsX0_count) := goodIn_app (goodIn_of _ (by decide +kernel)) ggX3_join_X0_count
theorem dX3_join_0 : decode cX3_join 0 = .ok (.aload_n 0, 1) := by decide +kernel
theorem dX3_join_1 : decode cX3_join 1 = .ok (.iload_n 1, 1) := by decide +kernel
theorem dX3_join_2 : decode cX3_join 2 = .ok (.invokevirtual 42, 3) := by decide +kernel
theorem dX3_join_5 : decode cX3_join 5 = .ok (.astore 5, 2) := by decide +kernel
theorem dX3_join_7 : decode cX3_join 7 = .ok (.aload_n 0, 1) := by decide +kernel
theorem dX3_join_8 : decode cX3_join 8 = .ok (.iload_n 2, 1) := by decide +kernel
theorem dX3_join_9 : decode cX3_join 9 = .ok (.invokevirtual 42, 3) := by decide +kernel
theorem dX3_join_12 : decode cX3_join 12 = .ok (.astore 6, 2) := by decide +kernel
theorem dX3_join_14 : decode cX3_join 14 = .ok (.aload_n 0, 1) := by decide +kernel
theorem dX3_join_15 : decode cX3_join 15 = .ok (.iload_n 3, 1) := by decide +kernel
theorem dX3_join_16 : decode cX3_join 16 = .ok (.invokevirtual 42, 3) := by decide +kernel
theorem dX3_join_19 : decode cX3_join 19 = .ok (.astore 7, 2) := by decide +kernel
theorem dX3_join_21 : decode cX3_join 21 = .ok (.iload 4, 2) := by decide +kernel
theorem dX3_join_23 : decode cX3_join 23 = .ok (.iconst 3, 1) := by decide +kernel
theorem dX3_join_24 : decode cX3_join 24 = .ok (.invokestatic 61, 3) := by decide +kernel
theorem dX3_join_27 : decode cX3_join 27 = .ok (.iconst 0, 1) := by decide +kernel
theorem dX3_join_28 : decode cX3_join 28 = .ok (.istore 8, 2) := by decide +kernel
theorem dX3_join_30 : decode cX3_join 30 = .ok (.iload 8, 2) := by decide +kernel
theorem dX3_join_32 : decode cX3_join 32 = .ok (.sipush 201, 3) := by decide +kernel
theorem dX3_join_35 : decode cX3_join 35 = .ok (.if_icmp .ge 35, 3) := by decide +kernel
theorem dX3_join_38 : decode cX3_join 38 = .ok (.aload 5, 2) := by decide +kernel
theorem dX3_join_40 : decode cX3_join 40 = .ok (.iload 8, 2) := by decide +kernel
theorem dX3_join_42 : decode cX3_join 42 = .ok (.aload 6, 2) := by decide +kernel
theorem dX3_join_44 : decode cX3_join 44 = .ok (.iload 8, 2) := by decide +kernel
theorem dX3_join_46 : decode cX3_join 46 = .ok (.invokevirtual 65, 3) := by decide +kernel
theorem dX3_join_49 : decode cX3_join 49 = .ok (.aload 7, 2) := by decide +kernel
theorem dX3_join_51 : decode cX3_join 51 = .ok (.iload 8, 2) := by decide +kernel
theorem dX3_join_53 : decode cX3_join 53 = .ok (.invokevirtual 65, 3) := by decide +kernel
theorem dX3_join_56 : decode cX3_join 56 = .ok (.iload 4, 2) := by decide +kernel
theorem dX3_join_58 : decode cX3_join 58 = .ok (.invokestatic 69, 3) := by decide +kernel
theorem dX3_join_61 : decode cX3_join 61 = .ok (.invokevirtual 73, 3) := by decide +kernel
theorem dX3_join_64 : decode cX3_join 64 = .ok (.iinc 8 1, 3) := by decide +kernel
theorem dX3_join_67 : decode cX3_join 67 = .ok (.goto (-37), 3) := by decide +kernel
theorem dX3_join_70 : decode cX3_join 70 = .ok (.aload 5, 2) := by decide +kernel
theorem dX3_join_72 : decode cX3_join 72 = .ok (.invokevirtual 77, 3) := by decide +kernel
theorem dX3_join_75 : decode cX3_join 75 = .ok (.ireturn, 1) := by decide +kernel
set_option maxRecDepth 20000 in
theorem ggX3_change_X3_setAt : GoodIn wsX3_change wsX3_setAt := goodIn_ca (goodIn_r _ [5, 6, 7, 8, 9, 10, 4, 11, 12, 118, 119, 120, 121, 122, 123] (by decide +kernel) (by decide +kernel)) (goodIn_sub (fun _ h => List.mem_cons_of_mem _ (List.mem_append_left _ (List.mem_append_right _ h))) (by decide +kernel))
set_option maxRecDepth 20000 in
theorem gX3_change_X3_setAt : GoodIn wsX3_change (wsV RX3 42 RX3 yX3_setAt wsX3_setAt) := goodIn_app (goodIn_of _ (by decide +kernel)) ggX3_change_X3_setAt
set_option maxRecDepth 20000 in
theorem ggX3_change_X3_checkChoice : GoodIn wsX3_change wsX3_checkChoice := goodIn_ca (goodIn_r _ [15, 16, 17] (by decide +kernel) (by decide +kernel)) (goodIn_sub (fun _ h => List.mem_cons_of_mem _ (List.mem_append_right _ h)) (by decide +kernel))
set_option maxRecDepth 20000 in
theorem gX3_change_X3_checkChoice : GoodIn wsX3_change (va_wsS RX3 61 yX3_checkChoice wsX3_checkChoice) := goodIn_app (goodIn_of _ (by decide +kernel)) ggX3_change_X3_checkChoice
set_option maxRecDepth 20000 in
theorem ggX3_change_X3_changeSet : GoodIn wsX3_change wsX3_changeSet := goodIn_r _ [21, 22, 23, 24, 25, 26, 27, 28, 29, 30, 31, 32, 33, 34, 35, 36, 37, 38, 39, 40, 41, 42, 43, 44, 45, 46, 47, 48, 49, 50, 51, 52, 53, 54, 4, 55, 56, 57, 58, 59, 60, 61, 62, 63, 64, 65, 66, 67, 68, 69, 70, 71, 72, 73, 74, 75, 76, 77, 78, 79, 80, 81, 82, 83, 84, 85, 86, 87, 88, 89, 90, 91, 92, 93, 94, 95, 96, 97, 98, 99, 100, 101, 102, 103, 104, 105, 106, 107, 108, 109, 110, 111, 112, 113, 124, 118, 119, 120, 121, 122, 123, 125, 126, 127] (by decide +kernel) (by decide +kernel)
set_option maxRecDepth 20000 in
theorem gX3_change_X3_changeSet : GoodIn wsX3_change (wsV RX3 81 RX3 yX3_changeSet wsX3_changeSet) := goodIn_app (goodIn_of _ (by decide +kernel)) ggX3_change_X3_changeSet
set_option maxRecDepth 20000 in
theorem ggX3_change_X0_count : GoodIn wsX3_change wsX0_count := goodIn_r _ [117, 27, 28, 29, 25, 30, 31, 124] (by decide +kernel) (by decide +kernel)
set_option maxRecDepth 20000 in
theorem gX3_change_X0_count : GoodIn wsX3_change (wsV RX3 77 RX0 yX0_count wsX0_count) := goodIn_app (goodIn_of _ (by decide +kernel)) ggX3_change_X0_count
theorem dX3_change_0 : decode cX3_change 0 = .ok (.aload_n 0, 1) := by decide +kernel
theorem dX3_change_1 : decode cX3_change 1 = .ok (.iload_n 1, 1) := by decide +kernel
theorem dX3_change_2 : decode cX3_change 2 = .ok (.invokevirtual 42, 3) := by decide +kernel
theorem dX3_change_5 : decode cX3_change 5 = .ok (.astore_n 3, 1) := by decide +kernel
theorem dX3_change_6 : decode cX3_change 6 = .ok (.iload_n 2, 1) := by decide +kernel
theorem dX3_change_7 : decode cX3_change 7 = .ok (.bipush 7, 2) := by decide +kernel
theorem dX3_change_9 : decode cX3_change 9 = .ok (.invokestatic 61, 3) := by decide +kernel
theorem dX3_change_12 : decode cX3_change 12 = .ok (.aload_n 0, 1) := by decide +kernel
theorem dX3_change_13 : decode cX3_change 13 = .ok (.aload_n 3, 1) := by decide +kernel
theorem dX3_change_14 : decode cX3_change 14 = .ok (.iload_n 2, 1) := by decide +kernel
theorem dX3_change_15 : decode cX3_change 15 = .ok (.invokevirtual 81, 3) := by decide +kernel
theorem dX3_change_18 : decode cX3_change 18 = .ok (.aload_n 3, 1) := by decide +kernel
theorem dX3_change_19 : decode cX3_change 19 = .ok (.invokevirtual 77, 3) := by decide +kernel
theorem dX3_change_22 : decode cX3_change 22 = .ok (.ireturn, 1) := by decide +kernel
set_option maxRecDepth 20000 in
theorem ggX3_move_X3_setAt : GoodIn wsX3_move wsX3_setAt := goodIn_ca (goodIn_r _ [6, 7, 8, 9, 10, 11, 5, 12, 13, 39, 40, 41, 42, 43, 44] (by decide +kernel) (by decide +kernel)) (goodIn_sub (fun _ h => List.mem_cons_of_mem _ (List.mem_append_left _ (List.mem_append_right _ h))) (by decide +kernel))
set_option maxRecDepth 20000 in
theorem gX3_move_X3_setAt : GoodIn wsX3_move (wsV RX3 42 RX3 yX3_setAt wsX3_setAt) := goodIn_app (goodIn_of _ (by decide +kernel)) ggX3_move_X3_setAt
set_option maxRecDepth 20000 in
theorem ggX3_move_X3_checkMove : GoodIn wsX3_move wsX3_checkMove := goodIn_ca (goodIn_r _ [16, 17, 18] (by decide +kernel) (by decide +kernel)) (goodIn_sub (fun _ h => List.mem_cons_of_mem _ (List.mem_append_right _ h)) (by decide +kernel))
set_option maxRecDepth 20000 in
theorem gX3_move_X3_checkMove : GoodIn wsX3_move (va_wsS RX3 85 yX3_checkMove wsX3_checkMove) := goodIn_app (goodIn_of _ (by decide +kernel)) ggX3_move_X3_checkMove
set_option maxRecDepth 20000 in
theorem ggX3_move_X0_copyFrom : GoodIn wsX3_move wsX0_copyFrom := goodIn_r _ [23, 24, 25, 26, 22, 27, 28, 29, 30, 31, 32, 45] (by decide +kernel) (by decide +kernel)
set_option maxRecDepth 20000 in
theorem gX3_move_X0_copyFrom : GoodIn wsX3_move (wsV RX3 89 RX0 yX0_copyFrom wsX0_copyFrom) := goodIn_app (goodIn_of _ (by decide +kernel)) ggX3_move_X0_copyFrom
set_option maxRecDepth 20000 in
theorem ggX3_move_X0_holds : GoodIn wsX3_move wsX0_holds := goodIn_r _ [27, 28, 45] (by decide +kernel) (by decide +kernel)
set_option maxRecDepth 20000 in
theorem gX3_move_X0_holds : GoodIn wsX3_move (wsV RX3 65 RX0 yX0_holds wsX0_holds) := goodIn_app (goodIn_of _ (by decide +kernel)) ggX3_move_X0_holds
set_option maxRecDepth 20000 in
theorem ggX3_move_X0_write : GoodIn wsX3_move wsX0_write := goodIn_r _ [32, 28, 45] (by decide +kernel) (by decide +kernel)
set_option maxRecDepth 20000 in
theorem gX3_move_X0_write : GoodIn wsX3_move (wsV RX3 73 RX0 yX0_write wsX0_write) := goodIn_app (goodIn_of _ (by decide +kernel)) ggX3_move_X0_write
set_option maxRecDepth 20000 in
theorem ggX3_move_X0_count : GoodIn wsX3_move wsX0_count := goodIn_r _ [38, 24, 25, 26, 22, 27, 28, 45] (by decide +kernel) (by decide +kernel)
set_option maxRecDepth 20000 in
theorem gX3_move_X0_count : GoodIn wsX3_move (wsV RX3 77 RX0 yX0_count wsX0_count) := goodIn_app (goodIn_of _ (by decide +kernel)) ggX3_move_X0_count
theorem dX3_move_0 : decode cX3_move 0 = .ok (.aload_n 0, 1) := by decide +kernel
theorem dX3_move_1 : decode cX3_move 1 = .ok (.iload_n 1, 1) := by decide +kernel
theorem dX3_move_2 : decode cX3_move 2 = .ok (.invokevirtual 42, 3) := by decide +kernel
theorem dX3_move_5 : decode cX3_move 5 = .ok (.astore_n 3, 1) := by decide +kernel
theorem dX3_move_6 : decode cX3_move 6 = .ok (.iload_n 2, 1) := by decide +kernel
theorem dX3_move_7 : decode cX3_move 7 = .ok (.invokestatic 85, 3) := by decide +kernel
theorem dX3_move_10 : decode cX3_move 10 = .ok (.aload_n 0, 1) := by decide +kernel
theorem dX3_move_11 : decode cX3_move 11 = .ok (.getfield 22, 3) := by decide +kernel
theorem dX3_move_14 : decode cX3_move 14 = .ok (.aload_n 3, 1) := by decide +kernel
theorem dX3_move_15 : decode cX3_move 15 = .ok (.invokevirtual 89, 3) := by decide +kernel
theorem dX3_move_18 : decode cX3_move 18 = .ok (.iconst 0, 1) := by decide +kernel
theorem dX3_move_19 : decode cX3_move 19 = .ok (.istore 4, 2) := by decide +kernel
theorem dX3_move_21 : decode cX3_move 21 = .ok (.iload 4, 2) := by decide +kernel
theorem dX3_move_23 : decode cX3_move 23 = .ok (.sipush 201, 3) := by decide +kernel
theorem dX3_move_26 : decode cX3_move 26 = .ok (.if_icmp .ge 28, 3) := by decide +kernel
theorem dX3_move_29 : decode cX3_move 29 = .ok (.aload_n 3, 1) := by decide +kernel
theorem dX3_move_30 : decode cX3_move 30 = .ok (.iload 4, 2) := by decide +kernel
theorem dX3_move_32 : decode cX3_move 32 = .ok (.aload_n 0, 1) := by decide +kernel
theorem dX3_move_33 : decode cX3_move 33 = .ok (.getfield 22, 3) := by decide +kernel
theorem dX3_move_36 : decode cX3_move 36 = .ok (.iload 4, 2) := by decide +kernel
theorem dX3_move_38 : decode cX3_move 38 = .ok (.iconst 2, 1) := by decide +kernel
theorem dX3_move_39 : decode cX3_move 39 = .ok (.iload_n 2, 1) := by decide +kernel
theorem dX3_move_40 : decode cX3_move 40 = .ok (.imul, 1) := by decide +kernel
theorem dX3_move_41 : decode cX3_move 41 = .ok (.isub, 1) := by decide +kernel
theorem dX3_move_42 : decode cX3_move 42 = .ok (.invokevirtual 65, 3) := by decide +kernel
theorem dX3_move_45 : decode cX3_move 45 = .ok (.invokevirtual 73, 3) := by decide +kernel
theorem dX3_move_48 : decode cX3_move 48 = .ok (.iinc 4 1, 3) := by decide +kernel
theorem dX3_move_51 : decode cX3_move 51 = .ok (.goto (-30), 3) := by decide +kernel
theorem dX3_move_54 : decode cX3_move 54 = .ok (.aload_n 3, 1) := by decide +kernel
theorem dX3_move_55 : decode cX3_move 55 = .ok (.invokevirtual 77, 3) := by decide +kernel
theorem dX3_move_58 : decode cX3_move 58 = .ok (.ireturn, 1) := by decide +kernel
set_option maxRecDepth 20000 in
theorem ggX3_stretch_X3_setAt : GoodIn wsX3_stretch wsX3_setAt := goodIn_ca (goodIn_r _ [8, 9, 10, 11, 12, 13, 7, 14, 15, 50, 51, 52, 53, 54, 55] (by decide +kernel) (by decide +kernel)) (goodIn_sub (fun _ h => List.mem_cons_of_mem _ (List.mem_append_right _ h)) (by decide +kernel))
set_option maxRecDepth 20000 in
theorem gX3_stretch_X3_setAt : GoodIn wsX3_stretch (wsV RX3 42 RX3 yX3_setAt wsX3_setAt) := goodIn_app (goodIn_of _ (by decide +kernel)) ggX3_stretch_X3_setAt
set_option maxRecDepth 20000 in
theorem ggX3_stretch_X0_copyFrom : GoodIn wsX3_stretch wsX0_copyFrom := goodIn_r _ [20, 21, 22, 23, 19, 24, 25, 26, 27, 28, 29, 56] (by decide +kernel) (by decide +kernel)
set_option maxRecDepth 20000 in
theorem gX3_stretch_X0_copyFrom : GoodIn wsX3_stretch (wsV RX3 89 RX0 yX0_copyFrom wsX0_copyFrom) := goodIn_app (goodIn_of _ (by decide +kernel)) ggX3_stretch_X0_copyFrom
set_option maxRecDepth 20000 in
theorem ggX3_stretch_X0_fill : GoodIn wsX3_stretch wsX0_fill := goodIn_r _ [33, 34, 35, 36, 37, 21, 22, 23, 19, 24, 25, 26, 27, 28, 29, 56] (by decide +kernel) (by decide +kernel)
set_option maxRecDepth 20000 in
theorem gX3_stretch_X0_fill : GoodIn wsX3_stretch (wsV RX3 57 RX0 yX0_fill wsX0_fill) := goodIn_app (goodIn_of _ (by decide +kernel)) ggX3_stretch_X0_fill
set_option maxRecDepth 20000 in
theorem ggX3_stretch_X0_holds : GoodIn wsX3_stretch wsX0_holds := goodIn_r _ [24, 25, 56] (by decide +kernel) (by decide +kernel)
set_option maxRecDepth 20000 in
theorem gX3_stretch_X0_holds : GoodIn wsX3_stretch (wsV RX3 65 RX0 yX0_holds wsX0_holds) := goodIn_app (goodIn_of _ (by decide +kernel)) ggX3_stretch_X0_holds
set_option maxRecDepth 20000 in
theorem ggX3_stretch_X3_putStretched : GoodIn wsX3_stretch wsX3_putStretched := goodIn_r _ [41, 42, 43, 7, 44, 45, 27, 28, 19, 29, 25, 30, 31, 32, 33, 34, 35, 36, 37, 21, 22, 23, 24, 26, 56] (by decide +kernel) (by decide +kernel)
set_option maxRecDepth 20000 in
theorem gX3_stretch_X3_putStretched : GoodIn wsX3_stretch (va_wsS RX3 100 yX3_putStretched wsX3_putStretched) := goodIn_app (goodIn_of _ (by decide +kernel)) ggX3_stretch_X3_putStretched
set_option maxRecDepth 20000 in
theorem ggX3_stretch_X0_count : GoodIn wsX3_stretch wsX0_count := goodIn_r _ [49, 21, 22, 23, 19, 24, 25, 56] (by decide +kernel) (by decide +kernel)
set_option maxRecDepth 20000 in
theorem gX3_stretch_X0_count : GoodIn wsX3_stretch (wsV RX3 77 RX0 yX0_count wsX0_count) := goodIn_app (goodIn_of _ (by decide +kernel)) ggX3_stretch_X0_count
theorem dX3_stretch_0 : decode cX3_stretch 0 = .ok (.aload_n 0, 1) := by decide +kernel
theorem dX3_stretch_1 : decode cX3_stretch 1 = .ok (.iload_n 1, 1) := by decide +kernel
theorem dX3_stretch_2 : decode cX3_stretch 2 = .ok (.invokevirtual 42, 3) := by decide +kernel
theorem dX3_stretch_5 : decode cX3_stretch 5 = .ok (.astore_n 3, 1) := by decide +kernel
theorem dX3_stretch_6 : decode cX3_stretch 6 = .ok (.iload_n 2, 1) := by decide +kernel
theorem dX3_stretch_7 : decode cX3_stretch 7 = .ok (.iconst 2, 1) := by decide +kernel
theorem dX3_stretch_8 : decode cX3_stretch 8 = .ok (.if_icmp .lt 9, 3) := by decide +kernel
theorem dX3_stretch_11 : decode cX3_stretch 11 = .ok (.iload_n 2, 1) := by decide +kernel
theorem dX3_stretch_12 : decode cX3_stretch 12 = .ok (.bipush 10, 2) := by decide +kernel
theorem dX3_stretch_14 : decode cX3_stretch 14 = .ok (.if_icmp .le 13, 3) := by decide +kernel
theorem dX3_stretch_17 : decode cX3_stretch 17 = .ok (.new 93, 3) := by decide +kernel
theorem dX3_stretch_20 : decode cX3_stretch 20 = .ok (.dup, 1) := by decide +kernel
theorem dX3_stretch_21 : decode cX3_stretch 21 = .ok (.ldc 95, 2) := by decide +kernel
theorem dX3_stretch_23 : decode cX3_stretch 23 = .ok (.invokespecial 97, 3) := by decide +kernel
theorem dX3_stretch_26 : decode cX3_stretch 26 = .ok (.athrow, 1) := by decide +kernel
theorem dX3_stretch_27 : decode cX3_stretch 27 = .ok (.aload_n 0, 1) := by decide +kernel
theorem dX3_stretch_28 : decode cX3_stretch 28 = .ok (.getfield 22, 3) := by decide +kernel
theorem dX3_stretch_31 : decode cX3_stretch 31 = .ok (.aload_n 3, 1) := by decide +kernel
theorem dX3_stretch_32 : decode cX3_stretch 32 = .ok (.invokevirtual 89, 3) := by decide +kernel
theorem dX3_stretch_35 : decode cX3_stretch 35 = .ok (.aload_n 3, 1) := by decide +kernel
theorem dX3_stretch_36 : decode cX3_stretch 36 = .ok (.iconst 0, 1) := by decide +kernel
theorem dX3_stretch_37 : decode cX3_stretch 37 = .ok (.sipush 200, 3) := by decide +kernel
theorem dX3_stretch_40 : decode cX3_stretch 40 = .ok (.iconst 0, 1) := by decide +kernel
theorem dX3_stretch_41 : decode cX3_stretch 41 = .ok (.invokevirtual 57, 3) := by decide +kernel
theorem dX3_stretch_44 : decode cX3_stretch 44 = .ok (.pop, 1) := by decide +kernel
theorem dX3_stretch_45 : decode cX3_stretch 45 = .ok (.iconst 0, 1) := by decide +kernel
theorem dX3_stretch_46 : decode cX3_stretch 46 = .ok (.istore 4, 2) := by decide +kernel
theorem dX3_stretch_48 : decode cX3_stretch 48 = .ok (.iload 4, 2) := by decide +kernel
theorem dX3_stretch_50 : decode cX3_stretch 50 = .ok (.sipush 201, 3) := by decide +kernel
theorem dX3_stretch_53 : decode cX3_stretch 53 = .ok (.if_icmp .ge 28, 3) := by decide +kernel
theorem dX3_stretch_56 : decode cX3_stretch 56 = .ok (.aload_n 0, 1) := by decide +kernel
theorem dX3_stretch_57 : decode cX3_stretch 57 = .ok (.getfield 22, 3) := by decide +kernel
theorem dX3_stretch_60 : decode cX3_stretch 60 = .ok (.iload 4, 2) := by decide +kernel
theorem dX3_stretch_62 : decode cX3_stretch 62 = .ok (.invokevirtual 65, 3) := by decide +kernel
theorem dX3_stretch_65 : decode cX3_stretch 65 = .ok (.ifCond .eq 10, 3) := by decide +kernel
theorem dX3_stretch_68 : decode cX3_stretch 68 = .ok (.aload_n 3, 1) := by decide +kernel
theorem dX3_stretch_69 : decode cX3_stretch 69 = .ok (.iload 4, 2) := by decide +kernel
theorem dX3_stretch_71 : decode cX3_stretch 71 = .ok (.iload_n 2, 1) := by decide +kernel
theorem dX3_stretch_72 : decode cX3_stretch 72 = .ok (.invokestatic 100, 3) := by decide +kernel
theorem dX3_stretch_75 : decode cX3_stretch 75 = .ok (.iinc 4 1, 3) := by decide +kernel
theorem dX3_stretch_78 : decode cX3_stretch 78 = .ok (.goto (-30), 3) := by decide +kernel
theorem dX3_stretch_81 : decode cX3_stretch 81 = .ok (.aload_n 3, 1) := by decide +kernel
theorem dX3_stretch_82 : decode cX3_stretch 82 = .ok (.invokevirtual 77, 3) := by decide +kernel
theorem dX3_stretch_85 : decode cX3_stretch 85 = .ok (.ireturn, 1) := by decide +kernel
set_option maxRecDepth 20000 in
theorem ggX3_ofSet_X3_setAt : GoodIn wsX3_ofSet wsX3_setAt := goodIn_ca (goodIn_r _ [5, 6, 7, 8, 9, 10, 4, 11, 12, 85, 86, 87, 88, 89, 90] (by decide +kernel) (by decide +kernel)) (goodIn_sub (fun _ h => List.mem_cons_of_mem _ (List.mem_append_left _ (List.mem_append_right _ h))) (by decide +kernel))
set_option maxRecDepth 20000 in
theorem gX3_ofSet_X3_setAt : GoodIn wsX3_ofSet (wsV RX3 42 RX3 yX3_setAt wsX3_setAt) := goodIn_app (goodIn_of _ (by decide +kernel)) ggX3_ofSet_X3_setAt
set_option maxRecDepth 20000 in
theorem ggX3_ofSet_X3_checkChoice : GoodIn wsX3_ofSet wsX3_checkChoice := goodIn_ca (goodIn_r _ [15, 16, 17] (by decide +kernel) (by decide +kernel)) (goodIn_sub (fun _ h => List.mem_cons_of_mem _ (List.mem_append_right _ h)) (by decide +kernel))
set_option maxRecDepth 20000 in
theorem gX3_ofSet_X3_checkChoice : GoodIn wsX3_ofSet (va_wsS RX3 61 yX3_checkChoice wsX3_checkChoice) := goodIn_app (goodIn_of _ (by decide +kernel)) ggX3_ofSet_X3_checkChoice
set_option maxRecDepth 20000 in
theorem ggX3_ofSet_X3_factOfSet : GoodIn wsX3_ofSet wsX3_factOfSet := goodIn_r _ [21, 22, 23, 24, 25, 26, 27, 28, 29, 30, 31, 32, 33, 34, 35, 36, 37, 38, 39, 40, 41, 42, 43, 44, 45, 46, 47, 48, 49, 50, 51, 52, 53, 54, 55, 56, 57, 58, 59, 60, 61, 62, 63, 64, 65, 66, 67, 68, 69, 70, 71, 72, 73, 74, 75, 76, 77, 78, 4, 79, 80, 81, 82, 83, 84, 85, 86, 87, 88, 89, 90, 91, 92, 93, 94] (by decide +kernel) (by decide +kernel)
set_option maxRecDepth 20000 in
theorem gX3_ofSet_X3_factOfSet : GoodIn wsX3_ofSet (wsV RX3 104 RX3 yX3_factOfSet wsX3_factOfSet) := goodIn_app (goodIn_of _ (by decide +kernel)) ggX3_ofSet_X3_factOfSet
theorem dX3_ofSet_0 : decode cX3_ofSet 0 = .ok (.aload_n 0, 1) := by decide +kernel
theorem dX3_ofSet_1 : decode cX3_ofSet 1 = .ok (.iload_n 1, 1) := by decide +kernel
theorem dX3_ofSet_2 : decode cX3_ofSet 2 = .ok (.invokevirtual 42, 3) := by decide +kernel
theorem dX3_ofSet_5 : decode cX3_ofSet 5 = .ok (.astore_n 3, 1) := by decide +kernel
theorem dX3_ofSet_6 : decode cX3_ofSet 6 = .ok (.iload_n 2, 1) := by decide +kernel
theorem dX3_ofSet_7 : decode cX3_ofSet 7 = .ok (.iconst 5, 1) := by decide +kernel
theorem dX3_ofSet_8 : decode cX3_ofSet 8 = .ok (.invokestatic 61, 3) := by decide +kernel
theorem dX3_ofSet_11 : decode cX3_ofSet 11 = .ok (.aload_n 0, 1) := by decide +kernel
theorem dX3_ofSet_12 : decode cX3_ofSet 12 = .ok (.aload_n 3, 1) := by decide +kernel
theorem dX3_ofSet_13 : decode cX3_ofSet 13 = .ok (.iload_n 2, 1) := by decide +kernel
theorem dX3_ofSet_14 : decode cX3_ofSet 14 = .ok (.invokevirtual 104, 3) := by decide +kernel
theorem dX3_ofSet_17 : decode cX3_ofSet 17 = .ok (.ireturn, 1) := by decide +kernel
set_option maxRecDepth 20000 in
theorem ggX3_ofSpan_X3_setAt : GoodIn wsX3_ofSpan wsX3_setAt := goodIn_ca (goodIn_r _ [8, 1, 2, 9, 10, 11, 7, 12, 13, 59, 60, 61, 62, 63, 64] (by decide +kernel) (by decide +kernel)) (goodIn_sub (fun _ h => List.mem_cons_of_mem _ (List.mem_append_left _ (List.mem_append_right _ h))) (by decide +kernel))
set_option maxRecDepth 20000 in
theorem gX3_ofSpan_X3_setAt : GoodIn wsX3_ofSpan (wsV RX3 42 RX3 yX3_setAt wsX3_setAt) := goodIn_app (goodIn_of _ (by decide +kernel)) ggX3_ofSpan_X3_setAt
set_option maxRecDepth 20000 in
theorem ggX3_ofSpan_X1_readRuns : GoodIn wsX3_ofSpan wsX1_readRuns := goodIn_r _ [18, 19, 20, 21, 22, 23, 24, 25, 26, 27, 28, 17, 29, 30, 31, 32, 33, 34, 35, 65, 66, 67, 68] (by decide +kernel) (by decide +kernel)
set_option maxRecDepth 20000 in
theorem gX3_ofSpan_X1_readRuns : GoodIn wsX3_ofSpan (wsV RX3 108 RX1 yX1_readRuns wsX1_readRuns) := goodIn_app (goodIn_of _ (by decide +kernel)) ggX3_ofSpan_X1_readRuns
set_option maxRecDepth 20000 in
theorem ggX3_ofSpan_X1_size : GoodIn wsX3_ofSpan wsX1_size := goodIn_r _ [39, 19, 65, 66, 67] (by decide +kernel) (by decide +kernel)
set_option maxRecDepth 20000 in
theorem gX3_ofSpan_X1_size : GoodIn wsX3_ofSpan (wsV RX3 112 RX1 yX1_size wsX1_size) := goodIn_app (goodIn_of _ (by decide +kernel)) ggX3_ofSpan_X1_size
set_option maxRecDepth 20000 in
theorem ggX3_ofSpan_X3_checkChoice : GoodIn wsX3_ofSpan wsX3_checkChoice := goodIn_ca (goodIn_r _ [42, 43, 44] (by decide +kernel) (by decide +kernel)) (goodIn_sub (fun _ h => List.mem_cons_of_mem _ (List.mem_append_right _ h)) (by decide +kernel))
set_option maxRecDepth 20000 in
theorem gX3_ofSpan_X3_checkChoice : GoodIn wsX3_ofSpan (va_wsS RX3 61 yX3_checkChoice wsX3_checkChoice) := goodIn_app (goodIn_of _ (by decide +kernel)) ggX3_ofSpan_X3_checkChoice
set_option maxRecDepth 20000 in
theorem ggX3_ofSpan_X1_fact : GoodIn wsX3_ofSpan wsX1_fact := goodIn_r _ [48, 49, 50, 51, 17, 52, 19, 30, 53, 54, 55, 56, 35, 57, 7, 58, 65, 66, 67] (by decide +kernel) (by decide +kernel)
set_option maxRecDepth 20000 in
theorem gX3_ofSpan_X1_fact : GoodIn wsX3_ofSpan (wsV RX3 120 RX1 yX1_fact wsX1_fact) := goodIn_app (goodIn_of _ (by decide +kernel)) ggX3_ofSpan_X1_fact
theorem dX3_ofSpan_0 : decode cX3_ofSpan 0 = .ok (.aload_n 0, 1) := by decide +kernel
theorem dX3_ofSpan_1 : decode cX3_ofSpan 1 = .ok (.getfield 34, 3) := by decide +kernel
theorem dX3_ofSpan_4 : decode cX3_ofSpan 4 = .ok (.aload_n 0, 1) := by decide +kernel
theorem dX3_ofSpan_5 : decode cX3_ofSpan 5 = .ok (.iload_n 1, 1) := by decide +kernel
theorem dX3_ofSpan_6 : decode cX3_ofSpan 6 = .ok (.invokevirtual 42, 3) := by decide +kernel
theorem dX3_ofSpan_9 : decode cX3_ofSpan 9 = .ok (.iconst 1, 1) := by decide +kernel
theorem dX3_ofSpan_10 : decode cX3_ofSpan 10 = .ok (.invokevirtual 108, 3) := by decide +kernel
theorem dX3_ofSpan_13 : decode cX3_ofSpan 13 = .ok (.iload_n 2, 1) := by decide +kernel
theorem dX3_ofSpan_14 : decode cX3_ofSpan 14 = .ok (.ifCond .lt 14, 3) := by decide +kernel
theorem dX3_ofSpan_17 : decode cX3_ofSpan 17 = .ok (.iload_n 2, 1) := by decide +kernel
theorem dX3_ofSpan_18 : decode cX3_ofSpan 18 = .ok (.aload_n 0, 1) := by decide +kernel
theorem dX3_ofSpan_19 : decode cX3_ofSpan 19 = .ok (.getfield 34, 3) := by decide +kernel
theorem dX3_ofSpan_22 : decode cX3_ofSpan 22 = .ok (.invokevirtual 112, 3) := by decide +kernel
theorem dX3_ofSpan_25 : decode cX3_ofSpan 25 = .ok (.if_icmp .lt 13, 3) := by decide +kernel
theorem dX3_ofSpan_28 : decode cX3_ofSpan 28 = .ok (.new 115, 3) := by decide +kernel
theorem dX3_ofSpan_31 : decode cX3_ofSpan 31 = .ok (.dup, 1) := by decide +kernel
theorem dX3_ofSpan_32 : decode cX3_ofSpan 32 = .ok (.ldc 117, 2) := by decide +kernel
theorem dX3_ofSpan_34 : decode cX3_ofSpan 34 = .ok (.invokespecial 119, 3) := by decide +kernel
theorem dX3_ofSpan_37 : decode cX3_ofSpan 37 = .ok (.athrow, 1) := by decide +kernel
theorem dX3_ofSpan_38 : decode cX3_ofSpan 38 = .ok (.iload_n 3, 1) := by decide +kernel
theorem dX3_ofSpan_39 : decode cX3_ofSpan 39 = .ok (.iconst 2, 1) := by decide +kernel
theorem dX3_ofSpan_40 : decode cX3_ofSpan 40 = .ok (.invokestatic 61, 3) := by decide +kernel
theorem dX3_ofSpan_43 : decode cX3_ofSpan 43 = .ok (.aload_n 0, 1) := by decide +kernel
theorem dX3_ofSpan_44 : decode cX3_ofSpan 44 = .ok (.getfield 34, 3) := by decide +kernel
theorem dX3_ofSpan_47 : decode cX3_ofSpan 47 = .ok (.iload_n 2, 1) := by decide +kernel
theorem dX3_ofSpan_48 : decode cX3_ofSpan 48 = .ok (.iload_n 3, 1) := by decide +kernel
theorem dX3_ofSpan_49 : decode cX3_ofSpan 49 = .ok (.invokevirtual 120, 3) := by decide +kernel
theorem dX3_ofSpan_52 : decode cX3_ofSpan 52 = .ok (.ireturn, 1) := by decide +kernel
set_option maxRecDepth 20000 in
theorem ggX3_has_X3_setAt : GoodIn wsX3_has wsX3_setAt := goodIn_ca (goodIn_r _ [5, 6, 7, 8, 9, 10, 4, 11, 12, 22, 23, 24, 25, 26, 27] (by decide +kernel) (by decide +kernel)) (goodIn_sub (fun _ h => List.mem_cons_of_mem _ (List.mem_append_right _ h)) (by decide +kernel))
set_option maxRecDepth 20000 in
theorem gX3_has_X3_setAt : GoodIn wsX3_has (wsV RX3 42 RX3 yX3_setAt wsX3_setAt) := goodIn_app (goodIn_of _ (by decide +kernel)) ggX3_has_X3_setAt
set_option maxRecDepth 20000 in
theorem ggX3_has_X3_checkGrain : GoodIn wsX3_has wsX3_checkGrain := goodIn_ca (goodIn_r _ [15, 6, 7] (by decide +kernel) (by decide +kernel)) (goodIn_sub (fun _ h => List.mem_cons_of_mem _ (List.mem_append_right _ h)) (by decide +kernel))
set_option maxRecDepth 20000 in
theorem gX3_has_X3_checkGrain : GoodIn wsX3_has (va_wsS RX3 124 yX3_checkGrain wsX3_checkGrain) := goodIn_app (goodIn_of _ (by decide +kernel)) ggX3_has_X3_checkGrain
set_option maxRecDepth 20000 in
theorem ggX3_has_X0_holds : GoodIn wsX3_has wsX0_holds := goodIn_r _ [20, 21, 28] (by decide +kernel) (by decide +kernel)
set_option maxRecDepth 20000 in
theorem gX3_has_X0_holds : GoodIn wsX3_has (wsV RX3 65 RX0 yX0_holds wsX0_holds) := goodIn_app (goodIn_of _ (by decide +kernel)) ggX3_has_X0_holds
theorem dX3_has_0 : decode cX3_has 0 = .ok (.aload_n 0, 1) := by decide +kernel
theorem dX3_has_1 : decode cX3_has 1 = .ok (.iload_n 1, 1) := by decide +kernel
theorem dX3_has_2 : decode cX3_has 2 = .ok (.invokevirtual 42, 3) := by decide +kernel
theorem dX3_has_5 : decode cX3_has 5 = .ok (.astore_n 3, 1) := by decide +kernel
theorem dX3_has_6 : decode cX3_has 6 = .ok (.iload_n 2, 1) := by decide +kernel
theorem dX3_has_7 : decode cX3_has 7 = .ok (.invokestatic 124, 3) := by decide +kernel
theorem dX3_has_10 : decode cX3_has 10 = .ok (.aload_n 3, 1) := by decide +kernel
theorem dX3_has_11 : decode cX3_has 11 = .ok (.iload_n 2, 1) := by decide +kernel
theorem dX3_has_12 : decode cX3_has 12 = .ok (.invokevirtual 65, 3) := by decide +kernel
theorem dX3_has_15 : decode cX3_has 15 = .ok (.ireturn, 1) := by decide +kernel
set_option maxRecDepth 20000 in
theorem ggX3_far_X3_setAt : GoodIn wsX3_far wsX3_setAt := goodIn_ca (goodIn_r _ [5, 6, 7, 8, 9, 10, 4, 11, 12, 22, 23, 24, 25, 26, 27] (by decide +kernel) (by decide +kernel)) (goodIn_sub (fun _ h => List.mem_cons_of_mem _ (List.mem_append_right _ h)) (by decide +kernel))
set_option maxRecDepth 20000 in
theorem gX3_far_X3_setAt : GoodIn wsX3_far (wsV RX3 42 RX3 yX3_setAt wsX3_setAt) := goodIn_app (goodIn_of _ (by decide +kernel)) ggX3_far_X3_setAt
set_option maxRecDepth 20000 in
theorem ggX3_far_X3_checkGrain : GoodIn wsX3_far wsX3_checkGrain := goodIn_ca (goodIn_r _ [15, 6, 7] (by decide +kernel) (by decide +kernel)) (goodIn_sub (fun _ h => List.mem_cons_of_mem _ (List.mem_append_right _ h)) (by decide +kernel))
set_option maxRecDepth 20000 in
theorem gX3_far_X3_checkGrain : GoodIn wsX3_far (va_wsS RX3 124 yX3_checkGrain wsX3_checkGrain) := goodIn_app (goodIn_of _ (by decide +kernel)) ggX3_far_X3_checkGrain
set_option maxRecDepth 20000 in
theorem ggX3_far_X0_holds : GoodIn wsX3_far wsX0_holds := goodIn_r _ [20, 21, 28] (by decide +kernel) (by decide +kernel)
set_option maxRecDepth 20000 in
theorem gX3_far_X0_holds : GoodIn wsX3_far (wsV RX3 65 RX0 yX0_holds wsX0_holds) := goodIn_app (goodIn_of _ (by decide +kernel)) ggX3_far_X0_holds
theorem dX3_far_0 : decode cX3_far 0 = .ok (.aload_n 0, 1) := by decide +kernel
theorem dX3_far_1 : decode cX3_far 1 = .ok (.iload_n 1, 1) := by decide +kernel
theorem dX3_far_2 : decode cX3_far 2 = .ok (.invokevirtual 42, 3) := by decide +kernel
theorem dX3_far_5 : decode cX3_far 5 = .ok (.astore_n 3, 1) := by decide +kernel
theorem dX3_far_6 : decode cX3_far 6 = .ok (.iload_n 2, 1) := by decide +kernel
theorem dX3_far_7 : decode cX3_far 7 = .ok (.invokestatic 124, 3) := by decide +kernel
theorem dX3_far_10 : decode cX3_far 10 = .ok (.iconst 0, 1) := by decide +kernel
theorem dX3_far_11 : decode cX3_far 11 = .ok (.istore 4, 2) := by decide +kernel
theorem dX3_far_13 : decode cX3_far 13 = .ok (.iload 4, 2) := by decide +kernel
theorem dX3_far_15 : decode cX3_far 15 = .ok (.sipush 201, 3) := by decide +kernel
theorem dX3_far_18 : decode cX3_far 18 = .ok (.if_icmp .ge 34, 3) := by decide +kernel
theorem dX3_far_21 : decode cX3_far 21 = .ok (.aload_n 3, 1) := by decide +kernel
theorem dX3_far_22 : decode cX3_far 22 = .ok (.iload_n 2, 1) := by decide +kernel
theorem dX3_far_23 : decode cX3_far 23 = .ok (.iload 4, 2) := by decide +kernel
theorem dX3_far_25 : decode cX3_far 25 = .ok (.isub, 1) := by decide +kernel
theorem dX3_far_26 : decode cX3_far 26 = .ok (.invokevirtual 65, 3) := by decide +kernel
theorem dX3_far_29 : decode cX3_far 29 = .ok (.ifCond .ne 14, 3) := by decide +kernel
theorem dX3_far_32 : decode cX3_far 32 = .ok (.aload_n 3, 1) := by decide +kernel
theorem dX3_far_33 : decode cX3_far 33 = .ok (.iload_n 2, 1) := by decide +kernel
theorem dX3_far_34 : decode cX3_far 34 = .ok (.iload 4, 2) := by decide +kernel
theorem dX3_far_36 : decode cX3_far 36 = .ok (.iadd, 1) := by decide +kernel
theorem dX3_far_37 : decode cX3_far 37 = .ok (.invokevirtual 65, 3) := by decide +kernel
theorem dX3_far_40 : decode cX3_far 40 = .ok (.ifCond .eq 6, 3) := by decide +kernel
theorem dX3_far_43 : decode cX3_far 43 = .ok (.iload 4, 2) := by decide +kernel
theorem dX3_far_45 : decode cX3_far 45 = .ok (.ireturn, 1) := by decide +kernel
theorem dX3_far_46 : decode cX3_far 46 = .ok (.iinc 4 1, 3) := by decide +kernel
theorem dX3_far_49 : decode cX3_far 49 = .ok (.goto (-36), 3) := by decide +kernel
theorem dX3_far_52 : decode cX3_far 52 = .ok (.iconst (-1), 1) := by decide +kernel
theorem dX3_far_53 : decode cX3_far 53 = .ok (.ireturn, 1) := by decide +kernel
set_option maxRecDepth 20000 in
theorem ggX3_beside_X3_setAt : GoodIn wsX3_beside wsX3_setAt := goodIn_ca (goodIn_r _ [5, 6, 7, 8, 9, 10, 4, 11, 12, 27, 28, 29, 30, 31, 32] (by decide +kernel) (by decide +kernel)) (goodIn_sub (fun _ h => List.mem_cons_of_mem _ (List.mem_append_right _ h)) (by decide +kernel))
set_option maxRecDepth 20000 in
theorem gX3_beside_X3_setAt : GoodIn wsX3_beside (wsV RX3 42 RX3 yX3_setAt wsX3_setAt) := goodIn_app (goodIn_of _ (by decide +kernel)) ggX3_beside_X3_setAt
set_option maxRecDepth 20000 in
theorem ggX3_beside_X0_isInside : GoodIn wsX3_beside wsX0_isInside := goodIn_r _ [17, 18, 19, 20, 16, 21, 22, 33] (by decide +kernel) (by decide +kernel)
set_option maxRecDepth 20000 in
theorem gX3_beside_X0_isInside : GoodIn wsX3_beside (wsV RX3 127 RX0 yX0_isInside wsX0_isInside) := goodIn_app (goodIn_of _ (by decide +kernel)) ggX3_beside_X0_isInside
set_option maxRecDepth 20000 in
theorem ggX3_beside_X3_canLie : GoodIn wsX3_beside wsX3_canLie := goodIn_r _ [25, 26, 19, 20, 16, 21, 22, 33] (by decide +kernel) (by decide +kernel)
set_option maxRecDepth 20000 in
theorem gX3_beside_X3_canLie : GoodIn wsX3_beside (va_wsS RX3 131 yX3_canLie wsX3_canLie) := goodIn_app (goodIn_of _ (by decide +kernel)) ggX3_beside_X3_canLie
theorem dX3_beside_0 : decode cX3_beside 0 = .ok (.aload_n 0, 1) := by decide +kernel
theorem dX3_beside_1 : decode cX3_beside 1 = .ok (.iload_n 1, 1) := by decide +kernel
theorem dX3_beside_2 : decode cX3_beside 2 = .ok (.invokevirtual 42, 3) := by decide +kernel
theorem dX3_beside_5 : decode cX3_beside 5 = .ok (.astore_n 3, 1) := by decide +kernel
theorem dX3_beside_6 : decode cX3_beside 6 = .ok (.aload_n 0, 1) := by decide +kernel
theorem dX3_beside_7 : decode cX3_beside 7 = .ok (.iload_n 2, 1) := by decide +kernel
theorem dX3_beside_8 : decode cX3_beside 8 = .ok (.invokevirtual 42, 3) := by decide +kernel
theorem dX3_beside_11 : decode cX3_beside 11 = .ok (.astore 4, 2) := by decide +kernel
theorem dX3_beside_13 : decode cX3_beside 13 = .ok (.aload_n 3, 1) := by decide +kernel
theorem dX3_beside_14 : decode cX3_beside 14 = .ok (.aload 4, 2) := by decide +kernel
theorem dX3_beside_16 : decode cX3_beside 16 = .ok (.invokevirtual 127, 3) := by decide +kernel
theorem dX3_beside_19 : decode cX3_beside 19 = .ok (.istore 5, 2) := by decide +kernel
theorem dX3_beside_21 : decode cX3_beside 21 = .ok (.aload 4, 2) := by decide +kernel
theorem dX3_beside_23 : decode cX3_beside 23 = .ok (.aload_n 3, 1) := by decide +kernel
theorem dX3_beside_24 : decode cX3_beside 24 = .ok (.invokevirtual 127, 3) := by decide +kernel
theorem dX3_beside_27 : decode cX3_beside 27 = .ok (.istore 6, 2) := by decide +kernel
theorem dX3_beside_29 : decode cX3_beside 29 = .ok (.iload 5, 2) := by decide +kernel
theorem dX3_beside_31 : decode cX3_beside 31 = .ok (.ifCond .eq 14, 3) := by decide +kernel
theorem dX3_beside_34 : decode cX3_beside 34 = .ok (.iload 6, 2) := by decide +kernel
theorem dX3_beside_36 : decode cX3_beside 36 = .ok (.ifCond .eq 7, 3) := by decide +kernel
theorem dX3_beside_39 : decode cX3_beside 39 = .ok (.iconst 0, 1) := by decide +kernel
theorem dX3_beside_40 : decode cX3_beside 40 = .ok (.goto 4, 3) := by decide +kernel
theorem dX3_beside_43 : decode cX3_beside 43 = .ok (.iconst 1, 1) := by decide +kernel
theorem dX3_beside_44 : decode cX3_beside 44 = .ok (.ireturn, 1) := by decide +kernel
theorem dX3_beside_45 : decode cX3_beside 45 = .ok (.iload 6, 2) := by decide +kernel
theorem dX3_beside_47 : decode cX3_beside 47 = .ok (.ifCond .eq 5, 3) := by decide +kernel
theorem dX3_beside_50 : decode cX3_beside 50 = .ok (.iconst 2, 1) := by decide +kernel
theorem dX3_beside_51 : decode cX3_beside 51 = .ok (.ireturn, 1) := by decide +kernel
theorem dX3_beside_52 : decode cX3_beside 52 = .ok (.aload_n 3, 1) := by decide +kernel
theorem dX3_beside_53 : decode cX3_beside 53 = .ok (.iconst 0, 1) := by decide +kernel
theorem dX3_beside_54 : decode cX3_beside 54 = .ok (.aload 4, 2) := by decide +kernel
theorem dX3_beside_56 : decode cX3_beside 56 = .ok (.invokestatic 131, 3) := by decide +kernel
theorem dX3_beside_59 : decode cX3_beside 59 = .ok (.ifCond .eq 7, 3) := by decide +kernel
theorem dX3_beside_62 : decode cX3_beside 62 = .ok (.iconst 4, 1) := by decide +kernel
theorem dX3_beside_63 : decode cX3_beside 63 = .ok (.goto 4, 3) := by decide +kernel
theorem dX3_beside_66 : decode cX3_beside 66 = .ok (.iconst 3, 1) := by decide +kernel
theorem dX3_beside_67 : decode cX3_beside 67 = .ok (.ireturn, 1) := by decide +kernel
set_option maxRecDepth 20000 in
theorem ggX3_raise_X3_functionAt : GoodIn wsX3_raise wsX3_functionAt := goodIn_ca (goodIn_r _ [7, 8, 9, 10, 45, 46, 47, 48, 49, 50] (by decide +kernel) (by decide +kernel)) (goodIn_sub (fun _ h => List.mem_cons_of_mem _ (List.mem_append_right _ h)) (by decide +kernel))
set_option maxRecDepth 20000 in
theorem gX3_raise_X3_functionAt : GoodIn wsX3_raise (wsV RX3 135 RX3 yX3_functionAt wsX3_functionAt) := goodIn_app (goodIn_of _ (by decide +kernel)) ggX3_raise_X3_functionAt
set_option maxRecDepth 20000 in
theorem ggX3_raise_X3_checkSpan : GoodIn wsX3_raise wsX3_checkSpan := goodIn_ca (goodIn_r _ [13, 1, 2, 14, 15, 6, 16] (by decide +kernel) (by decide +kernel)) (goodIn_sub (fun _ h => List.mem_cons_of_mem _ (List.mem_append_left _ (List.mem_append_right _ h))) (by decide +kernel))
set_option maxRecDepth 20000 in
theorem gX3_raise_X3_checkSpan : GoodIn wsX3_raise (va_wsS RX3 46 yX3_checkSpan wsX3_checkSpan) := goodIn_app (goodIn_of _ (by decide +kernel)) ggX3_raise_X3_checkSpan
set_option maxRecDepth 20000 in
theorem ggX3_raise_X3_lastGrain : GoodIn wsX3_raise wsX3_lastGrain := goodIn_r _ [19] (by decide +kernel) (by decide +kernel)
set_option maxRecDepth 20000 in
theorem gX3_raise_X3_lastGrain : GoodIn wsX3_raise (va_wsS RX3 54 yX3_lastGrain wsX3_lastGrain) := goodIn_app (goodIn_of _ (by decide +kernel)) ggX3_raise_X3_lastGrain
set_option maxRecDepth 20000 in
theorem ggX3_raise_X3_firstGrain : GoodIn wsX3_raise wsX3_firstGrain := goodIn_r _ [22] (by decide +kernel) (by decide +kernel)
set_option maxRecDepth 20000 in
theorem gX3_raise_X3_firstGrain : GoodIn wsX3_raise (va_wsS RX3 50 yX3_firstGrain wsX3_firstGrain) := goodIn_app (goodIn_of _ (by decide +kernel)) ggX3_raise_X3_firstGrain
set_option maxRecDepth 20000 in
theorem ggX3_raise_X2_at : GoodIn wsX3_raise wsX2_at := goodIn_r _ [27, 28, 51] (by decide +kernel) (by decide +kernel)
set_option maxRecDepth 20000 in
theorem gX3_raise_X2_at : GoodIn wsX3_raise (wsV RX3 141 RX2 yX2_at wsX2_at) := goodIn_app (goodIn_of _ (by decide +kernel)) ggX3_raise_X2_at
set_option maxRecDepth 20000 in
theorem ggX3_raise_X2_write : GoodIn wsX3_raise wsX2_write := goodIn_r _ [32, 28, 33, 34, 35, 36, 37, 38, 39, 51] (by decide +kernel) (by decide +kernel)
set_option maxRecDepth 20000 in
theorem gX3_raise_X2_write : GoodIn wsX3_raise (wsV RX3 145 RX2 yX2_write wsX2_write) := goodIn_app (goodIn_of _ (by decide +kernel)) ggX3_raise_X2_write
set_option maxRecDepth 20000 in
theorem ggX3_raise_X2_steps : GoodIn wsX3_raise wsX2_steps := goodIn_r _ [43, 44, 24, 25, 26, 27, 28, 51] (by decide +kernel) (by decide +kernel)
set_option maxRecDepth 20000 in
theorem gX3_raise_X2_steps : GoodIn wsX3_raise (wsV RX3 147 RX2 yX2_steps wsX2_steps) := goodIn_app (goodIn_of _ (by decide +kernel)) ggX3_raise_X2_steps
theorem dX3_raise_0 : decode cX3_raise 0 = .ok (.aload_n 0, 1) := by decide +kernel
theorem dX3_raise_1 : decode cX3_raise 1 = .ok (.iload_n 1, 1) := by decide +kernel
theorem dX3_raise_2 : decode cX3_raise 2 = .ok (.invokevirtual 135, 3) := by decide +kernel
theorem dX3_raise_5 : decode cX3_raise 5 = .ok (.astore 6, 2) := by decide +kernel
theorem dX3_raise_7 : decode cX3_raise 7 = .ok (.iload_n 2, 1) := by decide +kernel
theorem dX3_raise_8 : decode cX3_raise 8 = .ok (.iload_n 3, 1) := by decide +kernel
theorem dX3_raise_9 : decode cX3_raise 9 = .ok (.iload 4, 2) := by decide +kernel
theorem dX3_raise_11 : decode cX3_raise 11 = .ok (.invokestatic 46, 3) := by decide +kernel
theorem dX3_raise_14 : decode cX3_raise 14 = .ok (.iload 5, 2) := by decide +kernel
theorem dX3_raise_16 : decode cX3_raise 16 = .ok (.sipush (-1000), 3) := by decide +kernel
theorem dX3_raise_19 : decode cX3_raise 19 = .ok (.if_icmp .lt 11, 3) := by decide +kernel
theorem dX3_raise_22 : decode cX3_raise 22 = .ok (.iload 5, 2) := by decide +kernel
theorem dX3_raise_24 : decode cX3_raise 24 = .ok (.sipush 1000, 3) := by decide +kernel
theorem dX3_raise_27 : decode cX3_raise 27 = .ok (.if_icmp .le 13, 3) := by decide +kernel
theorem dX3_raise_30 : decode cX3_raise 30 = .ok (.new 93, 3) := by decide +kernel
theorem dX3_raise_33 : decode cX3_raise 33 = .ok (.dup, 1) := by decide +kernel
theorem dX3_raise_34 : decode cX3_raise 34 = .ok (.ldc 139, 2) := by decide +kernel
theorem dX3_raise_36 : decode cX3_raise 36 = .ok (.invokespecial 97, 3) := by decide +kernel
theorem dX3_raise_39 : decode cX3_raise 39 = .ok (.athrow, 1) := by decide +kernel
theorem dX3_raise_40 : decode cX3_raise 40 = .ok (.iload_n 2, 1) := by decide +kernel
theorem dX3_raise_41 : decode cX3_raise 41 = .ok (.iload_n 3, 1) := by decide +kernel
theorem dX3_raise_42 : decode cX3_raise 42 = .ok (.iload 4, 2) := by decide +kernel
theorem dX3_raise_44 : decode cX3_raise 44 = .ok (.invokestatic 54, 3) := by decide +kernel
theorem dX3_raise_47 : decode cX3_raise 47 = .ok (.istore 7, 2) := by decide +kernel
theorem dX3_raise_49 : decode cX3_raise 49 = .ok (.iload_n 2, 1) := by decide +kernel
theorem dX3_raise_50 : decode cX3_raise 50 = .ok (.iload_n 3, 1) := by decide +kernel
theorem dX3_raise_51 : decode cX3_raise 51 = .ok (.iload 4, 2) := by decide +kernel
theorem dX3_raise_53 : decode cX3_raise 53 = .ok (.invokestatic 50, 3) := by decide +kernel
theorem dX3_raise_56 : decode cX3_raise 56 = .ok (.istore 8, 2) := by decide +kernel
theorem dX3_raise_58 : decode cX3_raise 58 = .ok (.iload 8, 2) := by decide +kernel
theorem dX3_raise_60 : decode cX3_raise 60 = .ok (.iload 7, 2) := by decide +kernel
theorem dX3_raise_62 : decode cX3_raise 62 = .ok (.if_icmp .gt 26, 3) := by decide +kernel
theorem dX3_raise_65 : decode cX3_raise 65 = .ok (.aload 6, 2) := by decide +kernel
theorem dX3_raise_67 : decode cX3_raise 67 = .ok (.iload 8, 2) := by decide +kernel
theorem dX3_raise_69 : decode cX3_raise 69 = .ok (.aload 6, 2) := by decide +kernel
theorem dX3_raise_71 : decode cX3_raise 71 = .ok (.iload 8, 2) := by decide +kernel
theorem dX3_raise_73 : decode cX3_raise 73 = .ok (.invokevirtual 141, 3) := by decide +kernel
theorem dX3_raise_76 : decode cX3_raise 76 = .ok (.iload 5, 2) := by decide +kernel
theorem dX3_raise_78 : decode cX3_raise 78 = .ok (.iadd, 1) := by decide +kernel
theorem dX3_raise_79 : decode cX3_raise 79 = .ok (.invokevirtual 145, 3) := by decide +kernel
theorem dX3_raise_82 : decode cX3_raise 82 = .ok (.iinc 8 1, 3) := by decide +kernel
theorem dX3_raise_85 : decode cX3_raise 85 = .ok (.goto (-27), 3) := by decide +kernel
theorem dX3_raise_88 : decode cX3_raise 88 = .ok (.aload 6, 2) := by decide +kernel
theorem dX3_raise_90 : decode cX3_raise 90 = .ok (.invokevirtual 147, 3) := by decide +kernel
theorem dX3_raise_93 : decode cX3_raise 93 = .ok (.ireturn, 1) := by decide +kernel
set_option maxRecDepth 20000 in
theorem ggX3_set_X3_functionAt : GoodIn wsX3_set wsX3_functionAt := goodIn_ca (goodIn_r _ [7, 8, 9, 10, 47, 48, 49, 50, 51, 52] (by decide +kernel) (by decide +kernel)) (goodIn_sub (fun _ h => List.mem_cons_of_mem _ (List.mem_append_right _ h)) (by decide +kernel))
set_option maxRecDepth 20000 in
theorem gX3_set_X3_functionAt : GoodIn wsX3_set (wsV RX3 135 RX3 yX3_functionAt wsX3_functionAt) := goodIn_app (goodIn_of _ (by decide +kernel)) ggX3_set_X3_functionAt
set_option maxRecDepth 20000 in
theorem ggX3_set_X3_setAt : GoodIn wsX3_set wsX3_setAt := goodIn_ca (goodIn_r _ [14, 8, 9, 15, 16, 17, 6, 18, 19, 47, 48, 49, 50, 51, 52] (by decide +kernel) (by decide +kernel)) (goodIn_sub (fun _ h => List.mem_cons_of_mem _ (List.mem_append_right _ h)) (by decide +kernel))
set_option maxRecDepth 20000 in
theorem gX3_set_X3_setAt : GoodIn wsX3_set (wsV RX3 42 RX3 yX3_setAt wsX3_setAt) := goodIn_app (goodIn_of _ (by decide +kernel)) ggX3_set_X3_setAt
set_option maxRecDepth 20000 in
theorem ggX3_set_X0_holds : GoodIn wsX3_set wsX0_holds := goodIn_r _ [24, 25, 53] (by decide +kernel) (by decide +kernel)
set_option maxRecDepth 20000 in
theorem gX3_set_X0_holds : GoodIn wsX3_set (wsV RX3 65 RX0 yX0_holds wsX0_holds) := goodIn_app (goodIn_of _ (by decide +kernel)) ggX3_set_X0_holds
set_option maxRecDepth 20000 in
theorem ggX3_set_X2_write : GoodIn wsX3_set wsX2_write := goodIn_r _ [30, 31, 32, 33, 34, 35, 36, 37, 38, 54] (by decide +kernel) (by decide +kernel)
set_option maxRecDepth 20000 in
theorem gX3_set_X2_write : GoodIn wsX3_set (wsV RX3 145 RX2 yX2_write wsX2_write) := goodIn_app (goodIn_of _ (by decide +kernel)) ggX3_set_X2_write
set_option maxRecDepth 20000 in
theorem ggX3_set_X2_steps : GoodIn wsX3_set wsX2_steps := goodIn_r _ [42, 43, 44, 45, 29, 46, 31, 54] (by decide +kernel) (by decide +kernel)
set_option maxRecDepth 20000 in
theorem gX3_set_X2_steps : GoodIn wsX3_set (wsV RX3 147 RX2 yX2_steps wsX2_steps) := goodIn_app (goodIn_of _ (by decide +kernel)) ggX3_set_X2_steps
theorem dX3_set_0 : decode cX3_set 0 = .ok (.aload_n 0, 1) := by decide +kernel
theorem dX3_set_1 : decode cX3_set 1 = .ok (.iload_n 1, 1) := by decide +kernel
theorem dX3_set_2 : decode cX3_set 2 = .ok (.invokevirtual 135, 3) := by decide +kernel
theorem dX3_set_5 : decode cX3_set 5 = .ok (.astore 4, 2) := by decide +kernel
theorem dX3_set_7 : decode cX3_set 7 = .ok (.aload_n 0, 1) := by decide +kernel
theorem dX3_set_8 : decode cX3_set 8 = .ok (.iload_n 2, 1) := by decide +kernel
theorem dX3_set_9 : decode cX3_set 9 = .ok (.invokevirtual 42, 3) := by decide +kernel
theorem dX3_set_12 : decode cX3_set 12 = .ok (.astore 5, 2) := by decide +kernel
theorem dX3_set_14 : decode cX3_set 14 = .ok (.iload_n 3, 1) := by decide +kernel
theorem dX3_set_15 : decode cX3_set 15 = .ok (.sipush (-10000), 3) := by decide +kernel
theorem dX3_set_18 : decode cX3_set 18 = .ok (.if_icmp .lt 10, 3) := by decide +kernel
theorem dX3_set_21 : decode cX3_set 21 = .ok (.iload_n 3, 1) := by decide +kernel
theorem dX3_set_22 : decode cX3_set 22 = .ok (.sipush 10000, 3) := by decide +kernel
theorem dX3_set_25 : decode cX3_set 25 = .ok (.if_icmp .le 13, 3) := by decide +kernel
theorem dX3_set_28 : decode cX3_set 28 = .ok (.new 93, 3) := by decide +kernel
theorem dX3_set_31 : decode cX3_set 31 = .ok (.dup, 1) := by decide +kernel
theorem dX3_set_32 : decode cX3_set 32 = .ok (.ldc 150, 2) := by decide +kernel
theorem dX3_set_34 : decode cX3_set 34 = .ok (.invokespecial 97, 3) := by decide +kernel
theorem dX3_set_37 : decode cX3_set 37 = .ok (.athrow, 1) := by decide +kernel
theorem dX3_set_38 : decode cX3_set 38 = .ok (.iconst 0, 1) := by decide +kernel
theorem dX3_set_39 : decode cX3_set 39 = .ok (.istore 6, 2) := by decide +kernel
theorem dX3_set_41 : decode cX3_set 41 = .ok (.iload 6, 2) := by decide +kernel
theorem dX3_set_43 : decode cX3_set 43 = .ok (.sipush 201, 3) := by decide +kernel
theorem dX3_set_46 : decode cX3_set 46 = .ok (.if_icmp .ge 27, 3) := by decide +kernel
theorem dX3_set_49 : decode cX3_set 49 = .ok (.aload 5, 2) := by decide +kernel
theorem dX3_set_51 : decode cX3_set 51 = .ok (.iload 6, 2) := by decide +kernel
theorem dX3_set_53 : decode cX3_set 53 = .ok (.invokevirtual 65, 3) := by decide +kernel
theorem dX3_set_56 : decode cX3_set 56 = .ok (.ifCond .eq 11, 3) := by decide +kernel
theorem dX3_set_59 : decode cX3_set 59 = .ok (.aload 4, 2) := by decide +kernel
theorem dX3_set_61 : decode cX3_set 61 = .ok (.iload 6, 2) := by decide +kernel
theorem dX3_set_63 : decode cX3_set 63 = .ok (.iload_n 3, 1) := by decide +kernel
theorem dX3_set_64 : decode cX3_set 64 = .ok (.invokevirtual 145, 3) := by decide +kernel
theorem dX3_set_67 : decode cX3_set 67 = .ok (.iinc 6 1, 3) := by decide +kernel
theorem dX3_set_70 : decode cX3_set 70 = .ok (.goto (-29), 3) := by decide +kernel
theorem dX3_set_73 : decode cX3_set 73 = .ok (.aload 4, 2) := by decide +kernel
theorem dX3_set_75 : decode cX3_set 75 = .ok (.invokevirtual 147, 3) := by decide +kernel
theorem dX3_set_78 : decode cX3_set 78 = .ok (.ireturn, 1) := by decide +kernel
set_option maxRecDepth 20000 in
theorem ggX3_mix_X3_functionAt : GoodIn wsX3_mix wsX3_functionAt := goodIn_ca (goodIn_r _ [5, 6, 7, 8, 41, 42, 43, 44, 45, 46] (by decide +kernel) (by decide +kernel)) (goodIn_sub (fun _ h => List.mem_cons_of_mem _ (List.mem_append_left _ (List.mem_append_right _ h))) (by decide +kernel))
set_option maxRecDepth 20000 in
theorem gX3_mix_X3_functionAt : GoodIn wsX3_mix (wsV RX3 135 RX3 yX3_functionAt wsX3_functionAt) := goodIn_app (goodIn_of _ (by decide +kernel)) ggX3_mix_X3_functionAt
set_option maxRecDepth 20000 in
theorem ggX3_mix_X3_checkChoice : GoodIn wsX3_mix wsX3_checkChoice := goodIn_ca (goodIn_r _ [11, 12, 13] (by decide +kernel) (by decide +kernel)) (goodIn_sub (fun _ h => List.mem_cons_of_mem _ (List.mem_append_right _ h)) (by decide +kernel))
set_option maxRecDepth 20000 in
theorem gX3_mix_X3_checkChoice : GoodIn wsX3_mix (va_wsS RX3 61 yX3_checkChoice wsX3_checkChoice) := goodIn_app (goodIn_of _ (by decide +kernel)) ggX3_mix_X3_checkChoice
set_option maxRecDepth 20000 in
theorem ggX3_mix_X2_at : GoodIn wsX3_mix wsX2_at := goodIn_r _ [18, 19, 47] (by decide +kernel) (by decide +kernel)
set_option maxRecDepth 20000 in
theorem gX3_mix_X2_at : GoodIn wsX3_mix (wsV RX3 141 RX2 yX2_at wsX2_at) := goodIn_app (goodIn_of _ (by decide +kernel)) ggX3_mix_X2_at
set_option maxRecDepth 20000 in
theorem ggX3_mix_X3_mixed : GoodIn wsX3_mix wsX3_mixed := goodIn_r _ [22, 23, 24, 25, 26, 27, 28, 29] (by decide +kernel) (by decide +kernel)
set_option maxRecDepth 20000 in
theorem gX3_mix_X3_mixed : GoodIn wsX3_mix (va_wsS RX3 152 yX3_mixed wsX3_mixed) := goodIn_app (goodIn_of _ (by decide +kernel)) ggX3_mix_X3_mixed
set_option maxRecDepth 20000 in
theorem ggX3_mix_X2_write : GoodIn wsX3_mix wsX2_write := goodIn_r _ [33, 19, 34, 24, 25, 26, 35, 28, 29, 47] (by decide +kernel) (by decide +kernel)
set_option maxRecDepth 20000 in
theorem gX3_mix_X2_write : GoodIn wsX3_mix (wsV RX3 145 RX2 yX2_write wsX2_write) := goodIn_app (goodIn_of _ (by decide +kernel)) ggX3_mix_X2_write
set_option maxRecDepth 20000 in
theorem ggX3_mix_X2_steps : GoodIn wsX3_mix wsX2_steps := goodIn_r _ [39, 40, 15, 16, 17, 18, 19, 47] (by decide +kernel) (by decide +kernel)
set_option maxRecDepth 20000 in
theorem gX3_mix_X2_steps : GoodIn wsX3_mix (wsV RX3 147 RX2 yX2_steps wsX2_steps) := goodIn_app (goodIn_of _ (by decide +kernel)) ggX3_mix_X2_steps
theorem dX3_mix_0 : decode cX3_mix 0 = .ok (.aload_n 0, 1) := by decide +kernel
theorem dX3_mix_1 : decode cX3_mix 1 = .ok (.iload_n 1, 1) := by decide +kernel
theorem dX3_mix_2 : decode cX3_mix 2 = .ok (.invokevirtual 135, 3) := by decide +kernel
theorem dX3_mix_5 : decode cX3_mix 5 = .ok (.astore 5, 2) := by decide +kernel
theorem dX3_mix_7 : decode cX3_mix 7 = .ok (.aload_n 0, 1) := by decide +kernel
theorem dX3_mix_8 : decode cX3_mix 8 = .ok (.iload_n 2, 1) := by decide +kernel
theorem dX3_mix_9 : decode cX3_mix 9 = .ok (.invokevirtual 135, 3) := by decide +kernel
theorem dX3_mix_12 : decode cX3_mix 12 = .ok (.astore 6, 2) := by decide +kernel
theorem dX3_mix_14 : decode cX3_mix 14 = .ok (.aload_n 0, 1) := by decide +kernel
theorem dX3_mix_15 : decode cX3_mix 15 = .ok (.iload_n 3, 1) := by decide +kernel
theorem dX3_mix_16 : decode cX3_mix 16 = .ok (.invokevirtual 135, 3) := by decide +kernel
theorem dX3_mix_19 : decode cX3_mix 19 = .ok (.astore 7, 2) := by decide +kernel
theorem dX3_mix_21 : decode cX3_mix 21 = .ok (.iload 4, 2) := by decide +kernel
theorem dX3_mix_23 : decode cX3_mix 23 = .ok (.iconst 4, 1) := by decide +kernel
theorem dX3_mix_24 : decode cX3_mix 24 = .ok (.invokestatic 61, 3) := by decide +kernel
theorem dX3_mix_27 : decode cX3_mix 27 = .ok (.iconst 0, 1) := by decide +kernel
theorem dX3_mix_28 : decode cX3_mix 28 = .ok (.istore 8, 2) := by decide +kernel
theorem dX3_mix_30 : decode cX3_mix 30 = .ok (.iload 8, 2) := by decide +kernel
theorem dX3_mix_32 : decode cX3_mix 32 = .ok (.sipush 201, 3) := by decide +kernel
theorem dX3_mix_35 : decode cX3_mix 35 = .ok (.if_icmp .ge 35, 3) := by decide +kernel
theorem dX3_mix_38 : decode cX3_mix 38 = .ok (.aload 5, 2) := by decide +kernel
theorem dX3_mix_40 : decode cX3_mix 40 = .ok (.iload 8, 2) := by decide +kernel
theorem dX3_mix_42 : decode cX3_mix 42 = .ok (.aload 6, 2) := by decide +kernel
theorem dX3_mix_44 : decode cX3_mix 44 = .ok (.iload 8, 2) := by decide +kernel
theorem dX3_mix_46 : decode cX3_mix 46 = .ok (.invokevirtual 141, 3) := by decide +kernel
theorem dX3_mix_49 : decode cX3_mix 49 = .ok (.aload 7, 2) := by decide +kernel
theorem dX3_mix_51 : decode cX3_mix 51 = .ok (.iload 8, 2) := by decide +kernel
theorem dX3_mix_53 : decode cX3_mix 53 = .ok (.invokevirtual 141, 3) := by decide +kernel
theorem dX3_mix_56 : decode cX3_mix 56 = .ok (.iload 4, 2) := by decide +kernel
theorem dX3_mix_58 : decode cX3_mix 58 = .ok (.invokestatic 152, 3) := by decide +kernel
theorem dX3_mix_61 : decode cX3_mix 61 = .ok (.invokevirtual 145, 3) := by decide +kernel
theorem dX3_mix_64 : decode cX3_mix 64 = .ok (.iinc 8 1, 3) := by decide +kernel
theorem dX3_mix_67 : decode cX3_mix 67 = .ok (.goto (-37), 3) := by decide +kernel
theorem dX3_mix_70 : decode cX3_mix 70 = .ok (.aload 5, 2) := by decide +kernel
theorem dX3_mix_72 : decode cX3_mix 72 = .ok (.invokevirtual 147, 3) := by decide +kernel
theorem dX3_mix_75 : decode cX3_mix 75 = .ok (.ireturn, 1) := by decide +kernel
set_option maxRecDepth 20000 in
theorem ggX3_turn_X3_functionAt : GoodIn wsX3_turn wsX3_functionAt := goodIn_ca (goodIn_r _ [7, 8, 9, 10, 82, 83, 84, 85, 86, 87] (by decide +kernel) (by decide +kernel)) (goodIn_sub (fun _ h => List.mem_cons_of_mem _ (List.mem_append_right _ h)) (by decide +kernel))
set_option maxRecDepth 20000 in
theorem gX3_turn_X3_functionAt : GoodIn wsX3_turn (wsV RX3 135 RX3 yX3_functionAt wsX3_functionAt) := goodIn_app (goodIn_of _ (by decide +kernel)) ggX3_turn_X3_functionAt
set_option maxRecDepth 20000 in
theorem ggX3_turn_X3_checkChoice : GoodIn wsX3_turn wsX3_checkChoice := goodIn_ca (goodIn_r _ [13, 1, 2] (by decide +kernel) (by decide +kernel)) (goodIn_sub (fun _ h => List.mem_cons_of_mem _ (List.mem_append_left _ (List.mem_append_right _ h))) (by decide +kernel))
set_option maxRecDepth 20000 in
theorem gX3_turn_X3_checkChoice : GoodIn wsX3_turn (va_wsS RX3 61 yX3_checkChoice wsX3_checkChoice) := goodIn_app (goodIn_of _ (by decide +kernel)) ggX3_turn_X3_checkChoice
set_option maxRecDepth 20000 in
theorem ggX3_turn_X3_turnFunction : GoodIn wsX3_turn wsX3_turnFunction := goodIn_r _ [17, 18, 19, 20, 21, 22, 23, 24, 25, 26, 27, 28, 29, 30, 31, 32, 33, 34, 35, 36, 37, 38, 39, 40, 41, 42, 43, 44, 45, 46, 47, 48, 49, 50, 51, 52, 53, 54, 55, 56, 6, 57, 58, 59, 60, 61, 62, 63, 64, 65, 66, 67, 68, 69, 70, 71, 72, 73, 74, 75, 76, 77, 82, 83, 84, 85, 86, 87, 88] (by decide +kernel) (by decide +kernel)
set_option maxRecDepth 20000 in
theorem gX3_turn_X3_turnFunction : GoodIn wsX3_turn (wsV RX3 157 RX3 yX3_turnFunction wsX3_turnFunction) := goodIn_app (goodIn_of _ (by decide +kernel)) ggX3_turn_X3_turnFunction
set_option maxRecDepth 20000 in
theorem ggX3_turn_X2_steps : GoodIn wsX3_turn wsX2_steps := goodIn_r _ [81, 24, 25, 26, 22, 27, 28, 88] (by decide +kernel) (by decide +kernel)
set_option maxRecDepth 20000 in
theorem gX3_turn_X2_steps : GoodIn wsX3_turn (wsV RX3 147 RX2 yX2_steps wsX2_steps) := goodIn_app (goodIn_of _ (by decide +kernel)) ggX3_turn_X2_steps
theorem dX3_turn_0 : decode cX3_turn 0 = .ok (.aload_n 0, 1) := by decide +kernel
theorem dX3_turn_1 : decode cX3_turn 1 = .ok (.iload_n 1, 1) := by decide +kernel
theorem dX3_turn_2 : decode cX3_turn 2 = .ok (.invokevirtual 135, 3) := by decide +kernel
theorem dX3_turn_5 : decode cX3_turn 5 = .ok (.astore 4, 2) := by decide +kernel
theorem dX3_turn_7 : decode cX3_turn 7 = .ok (.iload_n 2, 1) := by decide +kernel
theorem dX3_turn_8 : decode cX3_turn 8 = .ok (.bipush 6, 2) := by decide +kernel
theorem dX3_turn_10 : decode cX3_turn 10 = .ok (.invokestatic 61, 3) := by decide +kernel
theorem dX3_turn_13 : decode cX3_turn 13 = .ok (.iload_n 2, 1) := by decide +kernel
theorem dX3_turn_14 : decode cX3_turn 14 = .ok (.iconst 5, 1) := by decide +kernel
theorem dX3_turn_15 : decode cX3_turn 15 = .ok (.if_icmp .lt 24, 3) := by decide +kernel
theorem dX3_turn_18 : decode cX3_turn 18 = .ok (.iload_n 3, 1) := by decide +kernel
theorem dX3_turn_19 : decode cX3_turn 19 = .ok (.ifCond .lt 10, 3) := by decide +kernel
theorem dX3_turn_22 : decode cX3_turn 22 = .ok (.iload_n 3, 1) := by decide +kernel
theorem dX3_turn_23 : decode cX3_turn 23 = .ok (.sipush 201, 3) := by decide +kernel
theorem dX3_turn_26 : decode cX3_turn 26 = .ok (.if_icmp .lt 13, 3) := by decide +kernel
theorem dX3_turn_29 : decode cX3_turn 29 = .ok (.new 93, 3) := by decide +kernel
theorem dX3_turn_32 : decode cX3_turn 32 = .ok (.dup, 1) := by decide +kernel
theorem dX3_turn_33 : decode cX3_turn 33 = .ok (.ldc 155, 2) := by decide +kernel
theorem dX3_turn_35 : decode cX3_turn 35 = .ok (.invokespecial 97, 3) := by decide +kernel
theorem dX3_turn_38 : decode cX3_turn 38 = .ok (.athrow, 1) := by decide +kernel
theorem dX3_turn_39 : decode cX3_turn 39 = .ok (.aload_n 0, 1) := by decide +kernel
theorem dX3_turn_40 : decode cX3_turn 40 = .ok (.aload 4, 2) := by decide +kernel
theorem dX3_turn_42 : decode cX3_turn 42 = .ok (.iload_n 2, 1) := by decide +kernel
theorem dX3_turn_43 : decode cX3_turn 43 = .ok (.iload_n 3, 1) := by decide +kernel
theorem dX3_turn_44 : decode cX3_turn 44 = .ok (.invokevirtual 157, 3) := by decide +kernel
theorem dX3_turn_47 : decode cX3_turn 47 = .ok (.aload 4, 2) := by decide +kernel
theorem dX3_turn_49 : decode cX3_turn 49 = .ok (.invokevirtual 147, 3) := by decide +kernel
theorem dX3_turn_52 : decode cX3_turn 52 = .ok (.ireturn, 1) := by decide +kernel
set_option maxRecDepth 20000 in
theorem ggX3_thick_X3_functionAt : GoodIn wsX3_thick wsX3_functionAt := goodIn_ca (goodIn_r _ [5, 6, 7, 8, 54, 55, 56, 57, 58, 59] (by decide +kernel) (by decide +kernel)) (goodIn_sub (fun _ h => List.mem_cons_of_mem _ (List.mem_append_left _ (List.mem_append_right _ h))) (by decide +kernel))
set_option maxRecDepth 20000 in
theorem gX3_thick_X3_functionAt : GoodIn wsX3_thick (wsV RX3 135 RX3 yX3_functionAt wsX3_functionAt) := goodIn_app (goodIn_of _ (by decide +kernel)) ggX3_thick_X3_functionAt
set_option maxRecDepth 20000 in
theorem ggX3_thick_X3_checkFamily : GoodIn wsX3_thick wsX3_checkFamily := goodIn_ca (goodIn_r _ [11, 12, 13] (by decide +kernel) (by decide +kernel)) (goodIn_sub (fun _ h => List.mem_cons_of_mem _ (List.mem_append_right _ h)) (by decide +kernel))
set_option maxRecDepth 20000 in
theorem gX3_thick_X3_checkFamily : GoodIn wsX3_thick (va_wsS RX3 161 yX3_checkFamily wsX3_checkFamily) := goodIn_app (goodIn_of _ (by decide +kernel)) ggX3_thick_X3_checkFamily
set_option maxRecDepth 20000 in
theorem ggX3_thick_X3_thickness : GoodIn wsX3_thick wsX3_thickness := goodIn_r _ [17, 18, 19, 20, 4, 21, 22, 23, 24, 25, 26, 27, 28, 29, 30, 31, 32, 54, 55, 56, 57, 58, 59, 60] (by decide +kernel) (by decide +kernel)
set_option maxRecDepth 20000 in
theorem gX3_thick_X3_thickness : GoodIn wsX3_thick (wsV RX3 164 RX3 yX3_thickness wsX3_thickness) := goodIn_app (goodIn_of _ (by decide +kernel)) ggX3_thick_X3_thickness
set_option maxRecDepth 20000 in
theorem ggX3_thick_X2_write : GoodIn wsX3_thick wsX2_write := goodIn_r _ [37, 38, 39, 40, 41, 42, 43, 44, 45, 61] (by decide +kernel) (by decide +kernel)
set_option maxRecDepth 20000 in
theorem gX3_thick_X2_write : GoodIn wsX3_thick (wsV RX3 145 RX2 yX2_write wsX2_write) := goodIn_app (goodIn_of _ (by decide +kernel)) ggX3_thick_X2_write
set_option maxRecDepth 20000 in
theorem ggX3_thick_X2_steps : GoodIn wsX3_thick wsX2_steps := goodIn_r _ [49, 50, 51, 52, 36, 53, 38, 61] (by decide +kernel) (by decide +kernel)
set_option maxRecDepth 20000 in
theorem gX3_thick_X2_steps : GoodIn wsX3_thick (wsV RX3 147 RX2 yX2_steps wsX2_steps) := goodIn_app (goodIn_of _ (by decide +kernel)) ggX3_thick_X2_steps
theorem dX3_thick_0 : decode cX3_thick 0 = .ok (.aload_n 0, 1) := by decide +kernel
theorem dX3_thick_1 : decode cX3_thick 1 = .ok (.iload_n 1, 1) := by decide +kernel
theorem dX3_thick_2 : decode cX3_thick 2 = .ok (.invokevirtual 135, 3) := by decide +kernel
theorem dX3_thick_5 : decode cX3_thick 5 = .ok (.astore_n 3, 1) := by decide +kernel
theorem dX3_thick_6 : decode cX3_thick 6 = .ok (.iload_n 2, 1) := by decide +kernel
theorem dX3_thick_7 : decode cX3_thick 7 = .ok (.invokestatic 161, 3) := by decide +kernel
theorem dX3_thick_10 : decode cX3_thick 10 = .ok (.iconst 0, 1) := by decide +kernel
theorem dX3_thick_11 : decode cX3_thick 11 = .ok (.istore 4, 2) := by decide +kernel
theorem dX3_thick_13 : decode cX3_thick 13 = .ok (.iload 4, 2) := by decide +kernel
theorem dX3_thick_15 : decode cX3_thick 15 = .ok (.sipush 201, 3) := by decide +kernel
theorem dX3_thick_18 : decode cX3_thick 18 = .ok (.if_icmp .ge 22, 3) := by decide +kernel
theorem dX3_thick_21 : decode cX3_thick 21 = .ok (.aload_n 3, 1) := by decide +kernel
theorem dX3_thick_22 : decode cX3_thick 22 = .ok (.iload 4, 2) := by decide +kernel
theorem dX3_thick_24 : decode cX3_thick 24 = .ok (.aload_n 0, 1) := by decide +kernel
theorem dX3_thick_25 : decode cX3_thick 25 = .ok (.iload_n 2, 1) := by decide +kernel
theorem dX3_thick_26 : decode cX3_thick 26 = .ok (.iload 4, 2) := by decide +kernel
theorem dX3_thick_28 : decode cX3_thick 28 = .ok (.invokevirtual 164, 3) := by decide +kernel
theorem dX3_thick_31 : decode cX3_thick 31 = .ok (.invokevirtual 145, 3) := by decide +kernel
theorem dX3_thick_34 : decode cX3_thick 34 = .ok (.iinc 4 1, 3) := by decide +kernel
theorem dX3_thick_37 : decode cX3_thick 37 = .ok (.goto (-24), 3) := by decide +kernel
theorem dX3_thick_40 : decode cX3_thick 40 = .ok (.aload_n 3, 1) := by decide +kernel
theorem dX3_thick_41 : decode cX3_thick 41 = .ok (.invokevirtual 147, 3) := by decide +kernel
theorem dX3_thick_44 : decode cX3_thick 44 = .ok (.ireturn, 1) := by decide +kernel
set_option maxRecDepth 20000 in
theorem ggX3_where_X3_setAt : GoodIn wsX3_where wsX3_setAt := goodIn_ca (goodIn_r _ [5, 6, 7, 8, 9, 10, 4, 11, 12, 38, 39, 40, 41, 42, 43] (by decide +kernel) (by decide +kernel)) (goodIn_sub (fun _ h => List.mem_cons_of_mem _ (List.mem_append_right _ h)) (by decide +kernel))
set_option maxRecDepth 20000 in
theorem gX3_where_X3_setAt : GoodIn wsX3_where (wsV RX3 42 RX3 yX3_setAt wsX3_setAt) := goodIn_app (goodIn_of _ (by decide +kernel)) ggX3_where_X3_setAt
set_option maxRecDepth 20000 in
theorem ggX3_where_X3_functionAt : GoodIn wsX3_where wsX3_functionAt := goodIn_ca (goodIn_r _ [16, 6, 7, 17, 38, 39, 40, 41, 42, 43] (by decide +kernel) (by decide +kernel)) (goodIn_sub (fun _ h => List.mem_cons_of_mem _ (List.mem_append_right _ h)) (by decide +kernel))
set_option maxRecDepth 20000 in
theorem gX3_where_X3_functionAt : GoodIn wsX3_where (wsV RX3 135 RX3 yX3_functionAt wsX3_functionAt) := goodIn_app (goodIn_of _ (by decide +kernel)) ggX3_where_X3_functionAt
set_option maxRecDepth 20000 in
theorem ggX3_where_X2_at : GoodIn wsX3_where wsX2_at := goodIn_r _ [22, 23, 44] (by decide +kernel) (by decide +kernel)
set_option maxRecDepth 20000 in
theorem gX3_where_X2_at : GoodIn wsX3_where (wsV RX3 141 RX2 yX2_at wsX2_at) := goodIn_app (goodIn_of _ (by decide +kernel)) ggX3_where_X2_at
set_option maxRecDepth 20000 in
theorem ggX3_where_X0_write : GoodIn wsX3_where wsX0_write := goodIn_r _ [28, 29, 45] (by decide +kernel) (by decide +kernel)
set_option maxRecDepth 20000 in
theorem gX3_where_X0_write : GoodIn wsX3_where (wsV RX3 73 RX0 yX0_write wsX0_write) := goodIn_app (goodIn_of _ (by decide +kernel)) ggX3_where_X0_write
set_option maxRecDepth 20000 in
theorem ggX3_where_X0_count : GoodIn wsX3_where wsX0_count := goodIn_r _ [33, 34, 35, 36, 27, 37, 29, 45] (by decide +kernel) (by decide +kernel)
set_option maxRecDepth 20000 in
theorem gX3_where_X0_count : GoodIn wsX3_where (wsV RX3 77 RX0 yX0_count wsX0_count) := goodIn_app (goodIn_of _ (by decide +kernel)) ggX3_where_X0_count
theorem dX3_where_0 : decode cX3_where 0 = .ok (.aload_n 0, 1) := by decide +kernel
theorem dX3_where_1 : decode cX3_where 1 = .ok (.iload_n 1, 1) := by decide +kernel
theorem dX3_where_2 : decode cX3_where 2 = .ok (.invokevirtual 42, 3) := by decide +kernel
theorem dX3_where_5 : decode cX3_where 5 = .ok (.astore 5, 2) := by decide +kernel
theorem dX3_where_7 : decode cX3_where 7 = .ok (.aload_n 0, 1) := by decide +kernel
theorem dX3_where_8 : decode cX3_where 8 = .ok (.iload_n 2, 1) := by decide +kernel
theorem dX3_where_9 : decode cX3_where 9 = .ok (.invokevirtual 135, 3) := by decide +kernel
theorem dX3_where_12 : decode cX3_where 12 = .ok (.astore 6, 2) := by decide +kernel
theorem dX3_where_14 : decode cX3_where 14 = .ok (.iconst 0, 1) := by decide +kernel
theorem dX3_where_15 : decode cX3_where 15 = .ok (.istore 7, 2) := by decide +kernel
theorem dX3_where_17 : decode cX3_where 17 = .ok (.iload 7, 2) := by decide +kernel
theorem dX3_where_19 : decode cX3_where 19 = .ok (.sipush 201, 3) := by decide +kernel
theorem dX3_where_22 : decode cX3_where 22 = .ok (.if_icmp .ge 43, 3) := by decide +kernel
theorem dX3_where_25 : decode cX3_where 25 = .ok (.aload 6, 2) := by decide +kernel
theorem dX3_where_27 : decode cX3_where 27 = .ok (.iload 7, 2) := by decide +kernel
theorem dX3_where_29 : decode cX3_where 29 = .ok (.invokevirtual 141, 3) := by decide +kernel
theorem dX3_where_32 : decode cX3_where 32 = .ok (.istore 8, 2) := by decide +kernel
theorem dX3_where_34 : decode cX3_where 34 = .ok (.aload 5, 2) := by decide +kernel
theorem dX3_where_36 : decode cX3_where 36 = .ok (.iload 7, 2) := by decide +kernel
theorem dX3_where_38 : decode cX3_where 38 = .ok (.iload_n 3, 1) := by decide +kernel
theorem dX3_where_39 : decode cX3_where 39 = .ok (.iload 8, 2) := by decide +kernel
theorem dX3_where_41 : decode cX3_where 41 = .ok (.if_icmp .gt 14, 3) := by decide +kernel
theorem dX3_where_44 : decode cX3_where 44 = .ok (.iload 8, 2) := by decide +kernel
theorem dX3_where_46 : decode cX3_where 46 = .ok (.iload 4, 2) := by decide +kernel
theorem dX3_where_48 : decode cX3_where 48 = .ok (.if_icmp .gt 7, 3) := by decide +kernel
theorem dX3_where_51 : decode cX3_where 51 = .ok (.iconst 1, 1) := by decide +kernel
theorem dX3_where_52 : decode cX3_where 52 = .ok (.goto 4, 3) := by decide +kernel
theorem dX3_where_55 : decode cX3_where 55 = .ok (.iconst 0, 1) := by decide +kernel
theorem dX3_where_56 : decode cX3_where 56 = .ok (.invokevirtual 73, 3) := by decide +kernel
theorem dX3_where_59 : decode cX3_where 59 = .ok (.iinc 7 1, 3) := by decide +kernel
theorem dX3_where_62 : decode cX3_where 62 = .ok (.goto (-45), 3) := by decide +kernel
theorem dX3_where_65 : decode cX3_where 65 = .ok (.aload 5, 2) := by decide +kernel
theorem dX3_where_67 : decode cX3_where 67 = .ok (.invokevirtual 77, 3) := by decide +kernel
theorem dX3_where_70 : decode cX3_where 70 = .ok (.ireturn, 1) := by decide +kernel
set_option maxRecDepth 20000 in
theorem ggX3_ofFunction_X3_functionAt : GoodIn wsX3_ofFunction wsX3_functionAt := goodIn_ca (goodIn_r _ [5, 6, 7, 8, 50, 51, 52, 53, 54, 55] (by decide +kernel) (by decide +kernel)) (goodIn_sub (fun _ h => List.mem_cons_of_mem _ (List.mem_append_left _ (List.mem_append_right _ h))) (by decide +kernel))
set_option maxRecDepth 20000 in
theorem gX3_ofFunction_X3_functionAt : GoodIn wsX3_ofFunction (wsV RX3 135 RX3 yX3_functionAt wsX3_functionAt) := goodIn_app (goodIn_of _ (by decide +kernel)) ggX3_ofFunction_X3_functionAt
set_option maxRecDepth 20000 in
theorem ggX3_ofFunction_X3_checkChoice : GoodIn wsX3_ofFunction wsX3_checkChoice := goodIn_ca (goodIn_r _ [11, 12, 13] (by decide +kernel) (by decide +kernel)) (goodIn_sub (fun _ h => List.mem_cons_of_mem _ (List.mem_append_right _ h)) (by decide +kernel))
set_option maxRecDepth 20000 in
theorem gX3_ofFunction_X3_checkChoice : GoodIn wsX3_ofFunction (va_wsS RX3 61 yX3_checkChoice wsX3_checkChoice) := goodIn_app (goodIn_of _ (by decide +kernel)) ggX3_ofFunction_X3_checkChoice
set_option maxRecDepth 20000 in
theorem ggX3_ofFunction_X3_factOfFunction : GoodIn wsX3_ofFunction wsX3_factOfFunction := goodIn_r _ [16, 17, 18, 19, 20, 21, 22, 23, 24, 25, 26, 27, 28, 29, 30, 31, 32, 33, 34, 35, 36, 37, 38, 39, 40, 41, 42, 43, 44, 45, 46, 47, 4, 48, 49, 56] (by decide +kernel) (by decide +kernel)
set_option maxRecDepth 20000 in
theorem gX3_ofFunction_X3_factOfFunction : GoodIn wsX3_ofFunction (va_wsS RX3 167 yX3_factOfFunction wsX3_factOfFunction) := goodIn_app (goodIn_of _ (by decide +kernel)) ggX3_ofFunction_X3_factOfFunction
theorem dX3_ofFunction_0 : decode cX3_ofFunction 0 = .ok (.aload_n 0, 1) := by decide +kernel
theorem dX3_ofFunction_1 : decode cX3_ofFunction 1 = .ok (.iload_n 1, 1) := by decide +kernel
theorem dX3_ofFunction_2 : decode cX3_ofFunction 2 = .ok (.invokevirtual 135, 3) := by decide +kernel
theorem dX3_ofFunction_5 : decode cX3_ofFunction 5 = .ok (.astore_n 3, 1) := by decide +kernel
theorem dX3_ofFunction_6 : decode cX3_ofFunction 6 = .ok (.iload_n 2, 1) := by decide +kernel
theorem dX3_ofFunction_7 : decode cX3_ofFunction 7 = .ok (.iconst 4, 1) := by decide +kernel
theorem dX3_ofFunction_8 : decode cX3_ofFunction 8 = .ok (.invokestatic 61, 3) := by decide +kernel
theorem dX3_ofFunction_11 : decode cX3_ofFunction 11 = .ok (.aload_n 3, 1) := by decide +kernel
theorem dX3_ofFunction_12 : decode cX3_ofFunction 12 = .ok (.iload_n 2, 1) := by decide +kernel
theorem dX3_ofFunction_13 : decode cX3_ofFunction 13 = .ok (.invokestatic 167, 3) := by decide +kernel
theorem dX3_ofFunction_16 : decode cX3_ofFunction 16 = .ok (.ireturn, 1) := by decide +kernel
set_option maxRecDepth 20000 in
theorem ggX3_value_X3_functionAt : GoodIn wsX3_value wsX3_functionAt := goodIn_ca (goodIn_r _ [5, 6, 7, 8, 18, 19, 20, 21, 22, 23] (by decide +kernel) (by decide +kernel)) (goodIn_sub (fun _ h => List.mem_cons_of_mem _ (List.mem_append_right _ h)) (by decide +kernel))
set_option maxRecDepth 20000 in
theorem gX3_value_X3_functionAt : GoodIn wsX3_value (wsV RX3 135 RX3 yX3_functionAt wsX3_functionAt) := goodIn_app (goodIn_of _ (by decide +kernel)) ggX3_value_X3_functionAt
set_option maxRecDepth 20000 in
theorem ggX3_value_X3_checkGrain : GoodIn wsX3_value wsX3_checkGrain := goodIn_ca (goodIn_r _ [11, 6, 7] (by decide +kernel) (by decide +kernel)) (goodIn_sub (fun _ h => List.mem_cons_of_mem _ (List.mem_append_right _ h)) (by decide +kernel))
set_option maxRecDepth 20000 in
theorem gX3_value_X3_checkGrain : GoodIn wsX3_value (va_wsS RX3 124 yX3_checkGrain wsX3_checkGrain) := goodIn_app (goodIn_of _ (by decide +kernel)) ggX3_value_X3_checkGrain
set_option maxRecDepth 20000 in
theorem ggX3_value_X2_at : GoodIn wsX3_value wsX2_at := goodIn_r _ [16, 17, 24] (by decide +kernel) (by decide +kernel)
set_option maxRecDepth 20000 in
theorem gX3_value_X2_at : GoodIn wsX3_value (wsV RX3 141 RX2 yX2_at wsX2_at) := goodIn_app (goodIn_of _ (by decide +kernel)) ggX3_value_X2_at
theorem dX3_value_0 : decode cX3_value 0 = .ok (.aload_n 0, 1) := by decide +kernel
theorem dX3_value_1 : decode cX3_value 1 = .ok (.iload_n 1, 1) := by decide +kernel
theorem dX3_value_2 : decode cX3_value 2 = .ok (.invokevirtual 135, 3) := by decide +kernel
theorem dX3_value_5 : decode cX3_value 5 = .ok (.astore_n 3, 1) := by decide +kernel
theorem dX3_value_6 : decode cX3_value 6 = .ok (.iload_n 2, 1) := by decide +kernel
theorem dX3_value_7 : decode cX3_value 7 = .ok (.invokestatic 124, 3) := by decide +kernel
theorem dX3_value_10 : decode cX3_value 10 = .ok (.aload_n 3, 1) := by decide +kernel
theorem dX3_value_11 : decode cX3_value 11 = .ok (.iload_n 2, 1) := by decide +kernel
theorem dX3_value_12 : decode cX3_value 12 = .ok (.invokevirtual 141, 3) := by decide +kernel
theorem dX3_value_15 : decode cX3_value 15 = .ok (.ireturn, 1) := by decide +kernel
set_option maxRecDepth 20000 in
theorem ggX3_area_X3_functionAt : GoodIn wsX3_area wsX3_functionAt := goodIn_ca (goodIn_r _ [5, 6, 7, 8, 33, 34, 35, 36, 37, 38] (by decide +kernel) (by decide +kernel)) (goodIn_sub (fun _ h => List.mem_cons_of_mem _ (List.mem_append_right _ h)) (by decide +kernel))
set_option maxRecDepth 20000 in
theorem gX3_area_X3_functionAt : GoodIn wsX3_area (wsV RX3 135 RX3 yX3_functionAt wsX3_functionAt) := goodIn_app (goodIn_of _ (by decide +kernel)) ggX3_area_X3_functionAt
set_option maxRecDepth 20000 in
theorem ggX3_area_X3_setAt : GoodIn wsX3_area wsX3_setAt := goodIn_ca (goodIn_r _ [12, 6, 7, 13, 14, 15, 4, 16, 17, 33, 34, 35, 36, 37, 38] (by decide +kernel) (by decide +kernel)) (goodIn_sub (fun _ h => List.mem_cons_of_mem _ (List.mem_append_right _ h)) (by decide +kernel))
set_option maxRecDepth 20000 in
theorem gX3_area_X3_setAt : GoodIn wsX3_area (wsV RX3 42 RX3 yX3_setAt wsX3_setAt) := goodIn_app (goodIn_of _ (by decide +kernel)) ggX3_area_X3_setAt
set_option maxRecDepth 20000 in
theorem ggX3_area_X3_areaOver : GoodIn wsX3_area wsX3_areaOver := goodIn_r _ [20, 21, 22, 23, 24, 25, 26, 27, 28, 29, 30, 31, 32, 39, 40] (by decide +kernel) (by decide +kernel)
set_option maxRecDepth 20000 in
theorem gX3_area_X3_areaOver : GoodIn wsX3_area (va_wsS RX3 171 yX3_areaOver wsX3_areaOver) := goodIn_app (goodIn_of _ (by decide +kernel)) ggX3_area_X3_areaOver
theorem dX3_area_0 : decode cX3_area 0 = .ok (.aload_n 0, 1) := by decide +kernel
theorem dX3_area_1 : decode cX3_area 1 = .ok (.iload_n 1, 1) := by decide +kernel
theorem dX3_area_2 : decode cX3_area 2 = .ok (.invokevirtual 135, 3) := by decide +kernel
theorem dX3_area_5 : decode cX3_area 5 = .ok (.astore_n 3, 1) := by decide +kernel
theorem dX3_area_6 : decode cX3_area 6 = .ok (.aload_n 3, 1) := by decide +kernel
theorem dX3_area_7 : decode cX3_area 7 = .ok (.aload_n 0, 1) := by decide +kernel
theorem dX3_area_8 : decode cX3_area 8 = .ok (.iload_n 2, 1) := by decide +kernel
theorem dX3_area_9 : decode cX3_area 9 = .ok (.invokevirtual 42, 3) := by decide +kernel
theorem dX3_area_12 : decode cX3_area 12 = .ok (.invokestatic 171, 3) := by decide +kernel
theorem dX3_area_15 : decode cX3_area 15 = .ok (.ireturn, 1) := by decide +kernel
set_option maxRecDepth 20000 in
theorem ggX3_mean_X3_functionAt : GoodIn wsX3_mean wsX3_functionAt := goodIn_ca (goodIn_r _ [5, 6, 7, 8, 38, 39, 40, 41, 42, 43] (by decide +kernel) (by decide +kernel)) (goodIn_sub (fun _ h => List.mem_cons_of_mem _ (List.mem_append_right _ h)) (by decide +kernel))
set_option maxRecDepth 20000 in
theorem gX3_mean_X3_functionAt : GoodIn wsX3_mean (wsV RX3 135 RX3 yX3_functionAt wsX3_functionAt) := goodIn_app (goodIn_of _ (by decide +kernel)) ggX3_mean_X3_functionAt
set_option maxRecDepth 20000 in
theorem ggX3_mean_X3_setAt : GoodIn wsX3_mean wsX3_setAt := goodIn_ca (goodIn_r _ [12, 6, 7, 13, 14, 15, 4, 16, 17, 38, 39, 40, 41, 42, 43] (by decide +kernel) (by decide +kernel)) (goodIn_sub (fun _ h => List.mem_cons_of_mem _ (List.mem_append_right _ h)) (by decide +kernel))
set_option maxRecDepth 20000 in
theorem gX3_mean_X3_setAt : GoodIn wsX3_mean (wsV RX3 42 RX3 yX3_setAt wsX3_setAt) := goodIn_app (goodIn_of _ (by decide +kernel)) ggX3_mean_X3_setAt
set_option maxRecDepth 20000 in
theorem ggX3_mean_X0_length : GoodIn wsX3_mean wsX0_length := goodIn_r _ [22, 23, 24, 25, 21, 26, 27, 44] (by decide +kernel) (by decide +kernel)
set_option maxRecDepth 20000 in
theorem gX3_mean_X0_length : GoodIn wsX3_mean (wsV RX3 175 RX0 yX0_length wsX0_length) := goodIn_app (goodIn_of _ (by decide +kernel)) ggX3_mean_X0_length
set_option maxRecDepth 20000 in
theorem ggX3_mean_X3_areaOver : GoodIn wsX3_mean wsX3_areaOver := goodIn_r _ [30, 31, 24, 25, 21, 26, 27, 32, 33, 34, 35, 36, 37, 44, 45] (by decide +kernel) (by decide +kernel)
set_option maxRecDepth 20000 in
theorem gX3_mean_X3_areaOver : GoodIn wsX3_mean (va_wsS RX3 171 yX3_areaOver wsX3_areaOver) := goodIn_app (goodIn_of _ (by decide +kernel)) ggX3_mean_X3_areaOver
theorem dX3_mean_0 : decode cX3_mean 0 = .ok (.aload_n 0, 1) := by decide +kernel
theorem dX3_mean_1 : decode cX3_mean 1 = .ok (.iload_n 1, 1) := by decide +kernel
theorem dX3_mean_2 : decode cX3_mean 2 = .ok (.invokevirtual 135, 3) := by decide +kernel
theorem dX3_mean_5 : decode cX3_mean 5 = .ok (.astore_n 3, 1) := by decide +kernel
theorem dX3_mean_6 : decode cX3_mean 6 = .ok (.aload_n 0, 1) := by decide +kernel
theorem dX3_mean_7 : decode cX3_mean 7 = .ok (.iload_n 2, 1) := by decide +kernel
theorem dX3_mean_8 : decode cX3_mean 8 = .ok (.invokevirtual 42, 3) := by decide +kernel
theorem dX3_mean_11 : decode cX3_mean 11 = .ok (.astore 4, 2) := by decide +kernel
theorem dX3_mean_13 : decode cX3_mean 13 = .ok (.aload 4, 2) := by decide +kernel
theorem dX3_mean_15 : decode cX3_mean 15 = .ok (.invokevirtual 175, 3) := by decide +kernel
theorem dX3_mean_18 : decode cX3_mean 18 = .ok (.istore 5, 2) := by decide +kernel
theorem dX3_mean_20 : decode cX3_mean 20 = .ok (.iload 5, 2) := by decide +kernel
theorem dX3_mean_22 : decode cX3_mean 22 = .ok (.ifCond .ne 5, 3) := by decide +kernel
theorem dX3_mean_25 : decode cX3_mean 25 = .ok (.dconst 0, 1) := by decide +kernel
theorem dX3_mean_26 : decode cX3_mean 26 = .ok (.dreturn, 1) := by decide +kernel
theorem dX3_mean_27 : decode cX3_mean 27 = .ok (.aload_n 3, 1) := by decide +kernel
theorem dX3_mean_28 : decode cX3_mean 28 = .ok (.aload 4, 2) := by decide +kernel
theorem dX3_mean_30 : decode cX3_mean 30 = .ok (.invokestatic 171, 3) := by decide +kernel
theorem dX3_mean_33 : decode cX3_mean 33 = .ok (.i2d, 1) := by decide +kernel
theorem dX3_mean_34 : decode cX3_mean 34 = .ok (.iload 5, 2) := by decide +kernel
theorem dX3_mean_36 : decode cX3_mean 36 = .ok (.i2d, 1) := by decide +kernel
theorem dX3_mean_37 : decode cX3_mean 37 = .ok (.ddiv, 1) := by decide +kernel
theorem dX3_mean_38 : decode cX3_mean 38 = .ok (.dreturn, 1) := by decide +kernel
set_option maxRecDepth 20000 in
theorem ggX3_thicker_X3_checkFamily : GoodIn wsX3_thicker wsX3_checkFamily := goodIn_ca (goodIn_r _ [4, 5, 6] (by decide +kernel) (by decide +kernel)) (goodIn_sub (fun _ h => List.mem_cons_of_mem _ (List.mem_append_right _ h)) (by decide +kernel))
set_option maxRecDepth 20000 in
theorem gX3_thicker_X3_checkFamily : GoodIn wsX3_thicker (va_wsS RX3 161 yX3_checkFamily wsX3_checkFamily) := goodIn_app (goodIn_of _ (by decide +kernel)) ggX3_thicker_X3_checkFamily
set_option maxRecDepth 20000 in
theorem ggX3_thicker_X3_countThicker : GoodIn wsX3_thicker wsX3_countThicker := goodIn_r _ [10, 11, 12, 13, 3, 14, 15, 16, 17, 18, 19, 20, 21, 22, 23, 24, 25, 26, 27, 28, 29, 30, 31, 32, 33, 34, 35, 36] (by decide +kernel) (by decide +kernel)
set_option maxRecDepth 20000 in
theorem gX3_thicker_X3_countThicker : GoodIn wsX3_thicker (wsV RX3 178 RX3 yX3_countThicker wsX3_countThicker) := goodIn_app (goodIn_of _ (by decide +kernel)) ggX3_thicker_X3_countThicker
theorem dX3_thicker_0 : decode cX3_thicker 0 = .ok (.iload_n 1, 1) := by decide +kernel
theorem dX3_thicker_1 : decode cX3_thicker 1 = .ok (.invokestatic 161, 3) := by decide +kernel
theorem dX3_thicker_4 : decode cX3_thicker 4 = .ok (.aload_n 0, 1) := by decide +kernel
theorem dX3_thicker_5 : decode cX3_thicker 5 = .ok (.iload_n 1, 1) := by decide +kernel
theorem dX3_thicker_6 : decode cX3_thicker 6 = .ok (.iload_n 2, 1) := by decide +kernel
theorem dX3_thicker_7 : decode cX3_thicker 7 = .ok (.invokevirtual 178, 3) := by decide +kernel
theorem dX3_thicker_10 : decode cX3_thicker 10 = .ok (.ireturn, 1) := by decide +kernel
set_option maxRecDepth 20000 in
theorem ggX3_cover_X3_setAt : GoodIn wsX3_cover wsX3_setAt := goodIn_ca (goodIn_r _ [5, 6, 7, 8, 9, 10, 4, 11, 12, 42, 43, 44, 45, 46, 47] (by decide +kernel) (by decide +kernel)) (goodIn_sub (fun _ h => List.mem_cons_of_mem _ (List.mem_append_left _ (List.mem_append_right _ h))) (by decide +kernel))
set_option maxRecDepth 20000 in
theorem gX3_cover_X3_setAt : GoodIn wsX3_cover (wsV RX3 42 RX3 yX3_setAt wsX3_setAt) := goodIn_app (goodIn_of _ (by decide +kernel)) ggX3_cover_X3_setAt
set_option maxRecDepth 20000 in
theorem ggX3_cover_X3_checkFamily : GoodIn wsX3_cover wsX3_checkFamily := goodIn_ca (goodIn_r _ [15, 16, 17] (by decide +kernel) (by decide +kernel)) (goodIn_sub (fun _ h => List.mem_cons_of_mem _ (List.mem_append_right _ h)) (by decide +kernel))
set_option maxRecDepth 20000 in
theorem gX3_cover_X3_checkFamily : GoodIn wsX3_cover (va_wsS RX3 161 yX3_checkFamily wsX3_checkFamily) := goodIn_app (goodIn_of _ (by decide +kernel)) ggX3_cover_X3_checkFamily
set_option maxRecDepth 20000 in
theorem ggX3_cover_X3_takeCover : GoodIn wsX3_cover wsX3_takeCover := goodIn_r _ [21, 22, 23, 24, 25, 26, 27, 28, 29, 30, 31, 4, 32, 33, 34, 35, 36, 8, 9, 10, 11, 12, 37, 38, 39, 40, 41, 42, 43, 44, 45, 46, 47, 48] (by decide +kernel) (by decide +kernel)
set_option maxRecDepth 20000 in
theorem gX3_cover_X3_takeCover : GoodIn wsX3_cover (wsV RX3 181 RX3 yX3_takeCover wsX3_takeCover) := goodIn_app (goodIn_of _ (by decide +kernel)) ggX3_cover_X3_takeCover
theorem dX3_cover_0 : decode cX3_cover 0 = .ok (.aload_n 0, 1) := by decide +kernel
theorem dX3_cover_1 : decode cX3_cover 1 = .ok (.iload_n 2, 1) := by decide +kernel
theorem dX3_cover_2 : decode cX3_cover 2 = .ok (.invokevirtual 42, 3) := by decide +kernel
theorem dX3_cover_5 : decode cX3_cover 5 = .ok (.astore_n 3, 1) := by decide +kernel
theorem dX3_cover_6 : decode cX3_cover 6 = .ok (.iload_n 1, 1) := by decide +kernel
theorem dX3_cover_7 : decode cX3_cover 7 = .ok (.invokestatic 161, 3) := by decide +kernel
theorem dX3_cover_10 : decode cX3_cover 10 = .ok (.aload_n 0, 1) := by decide +kernel
theorem dX3_cover_11 : decode cX3_cover 11 = .ok (.iload_n 1, 1) := by decide +kernel
theorem dX3_cover_12 : decode cX3_cover 12 = .ok (.aload_n 3, 1) := by decide +kernel
theorem dX3_cover_13 : decode cX3_cover 13 = .ok (.invokevirtual 181, 3) := by decide +kernel
theorem dX3_cover_16 : decode cX3_cover 16 = .ok (.ireturn, 1) := by decide +kernel
set_option maxRecDepth 20000 in
theorem ggX3_apart_X3_checkFamily : GoodIn wsX3_apart wsX3_checkFamily := goodIn_ca (goodIn_r _ [4, 5, 6] (by decide +kernel) (by decide +kernel)) (goodIn_sub (fun _ h => List.mem_cons_of_mem _ (List.mem_append_right _ h)) (by decide +kernel))
set_option maxRecDepth 20000 in
theorem gX3_apart_X3_checkFamily : GoodIn wsX3_apart (va_wsS RX3 161 yX3_checkFamily wsX3_checkFamily) := goodIn_app (goodIn_of _ (by decide +kernel)) ggX3_apart_X3_checkFamily
set_option maxRecDepth 20000 in
theorem ggX3_apart_X3_countPins : GoodIn wsX3_apart wsX3_countPins := goodIn_r _ [10, 11, 12, 13, 3, 14, 15, 16, 17, 18, 19, 20, 21, 22, 23, 24, 25, 26, 27, 28, 29, 30, 31, 32, 33, 34, 35, 36, 37, 38, 39, 40, 41] (by decide +kernel) (by decide +kernel)
set_option maxRecDepth 20000 in
theorem gX3_apart_X3_countPins : GoodIn wsX3_apart (wsV RX3 187 RX3 yX3_countPins wsX3_countPins) := goodIn_app (goodIn_of _ (by decide +kernel)) ggX3_apart_X3_countPins
theorem dX3_apart_0 : decode cX3_apart 0 = .ok (.iload_n 1, 1) := by decide +kernel
theorem dX3_apart_1 : decode cX3_apart 1 = .ok (.invokestatic 161, 3) := by decide +kernel
theorem dX3_apart_4 : decode cX3_apart 4 = .ok (.aload_n 0, 1) := by decide +kernel
theorem dX3_apart_5 : decode cX3_apart 5 = .ok (.iload_n 1, 1) := by decide +kernel
theorem dX3_apart_6 : decode cX3_apart 6 = .ok (.invokevirtual 187, 3) := by decide +kernel
theorem dX3_apart_9 : decode cX3_apart 9 = .ok (.ireturn, 1) := by decide +kernel
set_option maxRecDepth 20000 in
theorem ggX3_pins_X3_checkFamily : GoodIn wsX3_pins wsX3_checkFamily := goodIn_ca (goodIn_r _ [4, 5, 6] (by decide +kernel) (by decide +kernel)) (goodIn_sub (fun _ h => List.mem_cons_of_mem _ (List.mem_append_right _ h)) (by decide +kernel))
set_option maxRecDepth 20000 in
theorem gX3_pins_X3_checkFamily : GoodIn wsX3_pins (va_wsS RX3 161 yX3_checkFamily wsX3_checkFamily) := goodIn_app (goodIn_of _ (by decide +kernel)) ggX3_pins_X3_checkFamily
set_option maxRecDepth 20000 in
theorem ggX3_pins_X3_countPins : GoodIn wsX3_pins wsX3_countPins := goodIn_r _ [10, 11, 12, 13, 3, 14, 15, 16, 17, 18, 19, 20, 21, 22, 23, 24, 25, 26, 27, 28, 29, 30, 31, 32, 33, 34, 35, 36, 37, 38, 39, 40, 41] (by decide +kernel) (by decide +kernel)
set_option maxRecDepth 20000 in
theorem gX3_pins_X3_countPins : GoodIn wsX3_pins (wsV RX3 187 RX3 yX3_countPins wsX3_countPins) := goodIn_app (goodIn_of _ (by decide +kernel)) ggX3_pins_X3_countPins
theorem dX3_pins_0 : decode cX3_pins 0 = .ok (.iload_n 1, 1) := by decide +kernel
theorem dX3_pins_1 : decode cX3_pins 1 = .ok (.invokestatic 161, 3) := by decide +kernel
theorem dX3_pins_4 : decode cX3_pins 4 = .ok (.aload_n 0, 1) := by decide +kernel
theorem dX3_pins_5 : decode cX3_pins 5 = .ok (.iload_n 1, 1) := by decide +kernel
theorem dX3_pins_6 : decode cX3_pins 6 = .ok (.invokevirtual 187, 3) := by decide +kernel
theorem dX3_pins_9 : decode cX3_pins 9 = .ok (.ireturn, 1) := by decide +kernel
set_option maxRecDepth 20000 in
theorem ggX3_meetWith_X3_setAt : GoodIn wsX3_meetWith wsX3_setAt := goodIn_ca (goodIn_r _ [5, 6, 7, 8, 9, 10, 4, 11, 12, 24, 25, 26, 27, 28, 29] (by decide +kernel) (by decide +kernel)) (goodIn_sub (fun _ h => List.mem_cons_of_mem _ (List.mem_append_left _ (List.mem_append_right _ h))) (by decide +kernel))
set_option maxRecDepth 20000 in
theorem gX3_meetWith_X3_setAt : GoodIn wsX3_meetWith (wsV RX3 42 RX3 yX3_setAt wsX3_setAt) := goodIn_app (goodIn_of _ (by decide +kernel)) ggX3_meetWith_X3_setAt
set_option maxRecDepth 20000 in
theorem ggX3_meetWith_X3_checkMove : GoodIn wsX3_meetWith wsX3_checkMove := goodIn_ca (goodIn_r _ [15, 16, 17] (by decide +kernel) (by decide +kernel)) (goodIn_sub (fun _ h => List.mem_cons_of_mem _ (List.mem_append_right _ h)) (by decide +kernel))
set_option maxRecDepth 20000 in
theorem gX3_meetWith_X3_checkMove : GoodIn wsX3_meetWith (va_wsS RX3 85 yX3_checkMove wsX3_checkMove) := goodIn_app (goodIn_of _ (by decide +kernel)) ggX3_meetWith_X3_checkMove
set_option maxRecDepth 20000 in
theorem ggX3_meetWith_X0_holds : GoodIn wsX3_meetWith wsX0_holds := goodIn_r _ [22, 23, 30] (by decide +kernel) (by decide +kernel)
set_option maxRecDepth 20000 in
theorem gX3_meetWith_X0_holds : GoodIn wsX3_meetWith (wsV RX3 65 RX0 yX0_holds wsX0_holds) := goodIn_app (goodIn_of _ (by decide +kernel)) ggX3_meetWith_X0_holds
theorem dX3_meetWith_0 : decode cX3_meetWith 0 = .ok (.aload_n 0, 1) := by decide +kernel
theorem dX3_meetWith_1 : decode cX3_meetWith 1 = .ok (.iload_n 1, 1) := by decide +kernel
theorem dX3_meetWith_2 : decode cX3_meetWith 2 = .ok (.invokevirtual 42, 3) := by decide +kernel
theorem dX3_meetWith_5 : decode cX3_meetWith 5 = .ok (.astore 4, 2) := by decide +kernel
theorem dX3_meetWith_7 : decode cX3_meetWith 7 = .ok (.aload_n 0, 1) := by decide +kernel
theorem dX3_meetWith_8 : decode cX3_meetWith 8 = .ok (.iload_n 3, 1) := by decide +kernel
theorem dX3_meetWith_9 : decode cX3_meetWith 9 = .ok (.invokevirtual 42, 3) := by decide +kernel
theorem dX3_meetWith_12 : decode cX3_meetWith 12 = .ok (.astore 5, 2) := by decide +kernel
theorem dX3_meetWith_14 : decode cX3_meetWith 14 = .ok (.iload_n 2, 1) := by decide +kernel
theorem dX3_meetWith_15 : decode cX3_meetWith 15 = .ok (.invokestatic 85, 3) := by decide +kernel
theorem dX3_meetWith_18 : decode cX3_meetWith 18 = .ok (.iconst 0, 1) := by decide +kernel
theorem dX3_meetWith_19 : decode cX3_meetWith 19 = .ok (.istore 6, 2) := by decide +kernel
theorem dX3_meetWith_21 : decode cX3_meetWith 21 = .ok (.iconst 1, 1) := by decide +kernel
theorem dX3_meetWith_22 : decode cX3_meetWith 22 = .ok (.istore 7, 2) := by decide +kernel
theorem dX3_meetWith_24 : decode cX3_meetWith 24 = .ok (.iload 7, 2) := by decide +kernel
theorem dX3_meetWith_26 : decode cX3_meetWith 26 = .ok (.sipush 201, 3) := by decide +kernel
theorem dX3_meetWith_29 : decode cX3_meetWith 29 = .ok (.if_icmp .ge 36, 3) := by decide +kernel
theorem dX3_meetWith_32 : decode cX3_meetWith 32 = .ok (.aload 5, 2) := by decide +kernel
theorem dX3_meetWith_34 : decode cX3_meetWith 34 = .ok (.iload 7, 2) := by decide +kernel
theorem dX3_meetWith_36 : decode cX3_meetWith 36 = .ok (.invokevirtual 65, 3) := by decide +kernel
theorem dX3_meetWith_39 : decode cX3_meetWith 39 = .ok (.ifCond .eq 20, 3) := by decide +kernel
theorem dX3_meetWith_42 : decode cX3_meetWith 42 = .ok (.aload 4, 2) := by decide +kernel
theorem dX3_meetWith_44 : decode cX3_meetWith 44 = .ok (.iload 7, 2) := by decide +kernel
theorem dX3_meetWith_46 : decode cX3_meetWith 46 = .ok (.iconst 2, 1) := by decide +kernel
theorem dX3_meetWith_47 : decode cX3_meetWith 47 = .ok (.iload_n 2, 1) := by decide +kernel
theorem dX3_meetWith_48 : decode cX3_meetWith 48 = .ok (.imul, 1) := by decide +kernel
theorem dX3_meetWith_49 : decode cX3_meetWith 49 = .ok (.isub, 1) := by decide +kernel
theorem dX3_meetWith_50 : decode cX3_meetWith 50 = .ok (.invokevirtual 65, 3) := by decide +kernel
theorem dX3_meetWith_53 : decode cX3_meetWith 53 = .ok (.ifCond .eq 6, 3) := by decide +kernel
theorem dX3_meetWith_56 : decode cX3_meetWith 56 = .ok (.iinc 6 1, 3) := by decide +kernel
theorem dX3_meetWith_59 : decode cX3_meetWith 59 = .ok (.iinc 7 2, 3) := by decide +kernel
theorem dX3_meetWith_62 : decode cX3_meetWith 62 = .ok (.goto (-38), 3) := by decide +kernel
theorem dX3_meetWith_65 : decode cX3_meetWith 65 = .ok (.iload 6, 2) := by decide +kernel
theorem dX3_meetWith_67 : decode cX3_meetWith 67 = .ok (.ireturn, 1) := by decide +kernel
set_option maxRecDepth 20000 in
theorem ggX3_clear_X3_setAt : GoodIn wsX3_clear wsX3_setAt := goodIn_ca (goodIn_r _ [5, 6, 7, 8, 9, 10, 4, 11, 12, 22, 23, 24, 25, 26, 27] (by decide +kernel) (by decide +kernel)) (goodIn_sub (fun _ h => List.mem_cons_of_mem _ (List.mem_append_right _ h)) (by decide +kernel))
set_option maxRecDepth 20000 in
theorem gX3_clear_X3_setAt : GoodIn wsX3_clear (wsV RX3 42 RX3 yX3_setAt wsX3_setAt) := goodIn_app (goodIn_of _ (by decide +kernel)) ggX3_clear_X3_setAt
set_option maxRecDepth 20000 in
theorem ggX3_clear_X3_canLie : GoodIn wsX3_clear wsX3_canLie := goodIn_r _ [15, 16, 17, 18, 19, 20, 21, 28] (by decide +kernel) (by decide +kernel)
set_option maxRecDepth 20000 in
theorem gX3_clear_X3_canLie : GoodIn wsX3_clear (va_wsS RX3 131 yX3_canLie wsX3_canLie) := goodIn_app (goodIn_of _ (by decide +kernel)) ggX3_clear_X3_canLie
theorem dX3_clear_0 : decode cX3_clear 0 = .ok (.aload_n 0, 1) := by decide +kernel
theorem dX3_clear_1 : decode cX3_clear 1 = .ok (.iload_n 1, 1) := by decide +kernel
theorem dX3_clear_2 : decode cX3_clear 2 = .ok (.invokevirtual 42, 3) := by decide +kernel
theorem dX3_clear_5 : decode cX3_clear 5 = .ok (.astore_n 3, 1) := by decide +kernel
theorem dX3_clear_6 : decode cX3_clear 6 = .ok (.aload_n 0, 1) := by decide +kernel
theorem dX3_clear_7 : decode cX3_clear 7 = .ok (.iload_n 2, 1) := by decide +kernel
theorem dX3_clear_8 : decode cX3_clear 8 = .ok (.invokevirtual 42, 3) := by decide +kernel
theorem dX3_clear_11 : decode cX3_clear 11 = .ok (.astore 4, 2) := by decide +kernel
theorem dX3_clear_13 : decode cX3_clear 13 = .ok (.iconst 0, 1) := by decide +kernel
theorem dX3_clear_14 : decode cX3_clear 14 = .ok (.istore 5, 2) := by decide +kernel
theorem dX3_clear_16 : decode cX3_clear 16 = .ok (.iload 5, 2) := by decide +kernel
theorem dX3_clear_18 : decode cX3_clear 18 = .ok (.bipush 100, 2) := by decide +kernel
theorem dX3_clear_20 : decode cX3_clear 20 = .ok (.if_icmp .gt 39, 3) := by decide +kernel
theorem dX3_clear_23 : decode cX3_clear 23 = .ok (.aload_n 3, 1) := by decide +kernel
theorem dX3_clear_24 : decode cX3_clear 24 = .ok (.iload 5, 2) := by decide +kernel
theorem dX3_clear_26 : decode cX3_clear 26 = .ok (.ineg, 1) := by decide +kernel
theorem dX3_clear_27 : decode cX3_clear 27 = .ok (.aload 4, 2) := by decide +kernel
theorem dX3_clear_29 : decode cX3_clear 29 = .ok (.invokestatic 131, 3) := by decide +kernel
theorem dX3_clear_32 : decode cX3_clear 32 = .ok (.ifCond .eq 7, 3) := by decide +kernel
theorem dX3_clear_35 : decode cX3_clear 35 = .ok (.iload 5, 2) := by decide +kernel
theorem dX3_clear_37 : decode cX3_clear 37 = .ok (.ineg, 1) := by decide +kernel
theorem dX3_clear_38 : decode cX3_clear 38 = .ok (.ireturn, 1) := by decide +kernel
theorem dX3_clear_39 : decode cX3_clear 39 = .ok (.aload_n 3, 1) := by decide +kernel
theorem dX3_clear_40 : decode cX3_clear 40 = .ok (.iload 5, 2) := by decide +kernel
theorem dX3_clear_42 : decode cX3_clear 42 = .ok (.aload 4, 2) := by decide +kernel
theorem dX3_clear_44 : decode cX3_clear 44 = .ok (.invokestatic 131, 3) := by decide +kernel
theorem dX3_clear_47 : decode cX3_clear 47 = .ok (.ifCond .eq 6, 3) := by decide +kernel
theorem dX3_clear_50 : decode cX3_clear 50 = .ok (.iload 5, 2) := by decide +kernel
theorem dX3_clear_52 : decode cX3_clear 52 = .ok (.ireturn, 1) := by decide +kernel
theorem dX3_clear_53 : decode cX3_clear 53 = .ok (.iinc 5 1, 3) := by decide +kernel
theorem dX3_clear_56 : decode cX3_clear 56 = .ok (.goto (-40), 3) := by decide +kernel
theorem dX3_clear_59 : decode cX3_clear 59 = .ok (.sipush 1000, 3) := by decide +kernel
theorem dX3_clear_62 : decode cX3_clear 62 = .ok (.ireturn, 1) := by decide +kernel
set_option maxRecDepth 20000 in
theorem ggX3_best_X3_functionAt : GoodIn wsX3_best wsX3_functionAt := goodIn_ca (goodIn_r _ [7, 8, 9, 10, 20, 21, 22, 23, 24, 25] (by decide +kernel) (by decide +kernel)) (goodIn_sub (fun _ h => List.mem_cons_of_mem _ (List.mem_append_right _ h)) (by decide +kernel))
set_option maxRecDepth 20000 in
theorem gX3_best_X3_functionAt : GoodIn wsX3_best (wsV RX3 135 RX3 yX3_functionAt wsX3_functionAt) := goodIn_app (goodIn_of _ (by decide +kernel)) ggX3_best_X3_functionAt
set_option maxRecDepth 20000 in
theorem ggX3_best_X3_areaBetween : GoodIn wsX3_best wsX3_areaBetween := goodIn_r _ [13, 14, 15, 16, 17, 18, 19, 26] (by decide +kernel) (by decide +kernel)
set_option maxRecDepth 20000 in
theorem gX3_best_X3_areaBetween : GoodIn wsX3_best (va_wsS RX3 192 yX3_areaBetween wsX3_areaBetween) := goodIn_app (goodIn_of _ (by decide +kernel)) ggX3_best_X3_areaBetween
theorem dX3_best_0 : decode cX3_best 0 = .ok (.aload_n 0, 1) := by decide +kernel
theorem dX3_best_1 : decode cX3_best 1 = .ok (.iload_n 1, 1) := by decide +kernel
theorem dX3_best_2 : decode cX3_best 2 = .ok (.invokevirtual 135, 3) := by decide +kernel
theorem dX3_best_5 : decode cX3_best 5 = .ok (.astore_n 3, 1) := by decide +kernel
theorem dX3_best_6 : decode cX3_best 6 = .ok (.iload_n 2, 1) := by decide +kernel
theorem dX3_best_7 : decode cX3_best 7 = .ok (.iconst 1, 1) := by decide +kernel
theorem dX3_best_8 : decode cX3_best 8 = .ok (.if_icmp .lt 9, 3) := by decide +kernel
theorem dX3_best_11 : decode cX3_best 11 = .ok (.iload_n 2, 1) := by decide +kernel
theorem dX3_best_12 : decode cX3_best 12 = .ok (.bipush 100, 2) := by decide +kernel
theorem dX3_best_14 : decode cX3_best 14 = .ok (.if_icmp .le 13, 3) := by decide +kernel
theorem dX3_best_17 : decode cX3_best 17 = .ok (.new 93, 3) := by decide +kernel
theorem dX3_best_20 : decode cX3_best 20 = .ok (.dup, 1) := by decide +kernel
theorem dX3_best_21 : decode cX3_best 21 = .ok (.ldc 190, 2) := by decide +kernel
theorem dX3_best_23 : decode cX3_best 23 = .ok (.invokespecial 97, 3) := by decide +kernel
theorem dX3_best_26 : decode cX3_best 26 = .ok (.athrow, 1) := by decide +kernel
theorem dX3_best_27 : decode cX3_best 27 = .ok (.iconst 0, 1) := by decide +kernel
theorem dX3_best_28 : decode cX3_best 28 = .ok (.istore 4, 2) := by decide +kernel
theorem dX3_best_30 : decode cX3_best 30 = .ok (.aload_n 3, 1) := by decide +kernel
theorem dX3_best_31 : decode cX3_best 31 = .ok (.iconst 0, 1) := by decide +kernel
theorem dX3_best_32 : decode cX3_best 32 = .ok (.iload_n 2, 1) := by decide +kernel
theorem dX3_best_33 : decode cX3_best 33 = .ok (.invokestatic 192, 3) := by decide +kernel
theorem dX3_best_36 : decode cX3_best 36 = .ok (.istore 5, 2) := by decide +kernel
theorem dX3_best_38 : decode cX3_best 38 = .ok (.iconst 1, 1) := by decide +kernel
theorem dX3_best_39 : decode cX3_best 39 = .ok (.istore 6, 2) := by decide +kernel
theorem dX3_best_41 : decode cX3_best 41 = .ok (.iload 6, 2) := by decide +kernel
theorem dX3_best_43 : decode cX3_best 43 = .ok (.bipush 100, 2) := by decide +kernel
theorem dX3_best_45 : decode cX3_best 45 = .ok (.iload_n 2, 1) := by decide +kernel
theorem dX3_best_46 : decode cX3_best 46 = .ok (.isub, 1) := by decide +kernel
theorem dX3_best_47 : decode cX3_best 47 = .ok (.if_icmp .gt 36, 3) := by decide +kernel
theorem dX3_best_50 : decode cX3_best 50 = .ok (.aload_n 3, 1) := by decide +kernel
theorem dX3_best_51 : decode cX3_best 51 = .ok (.iload 6, 2) := by decide +kernel
theorem dX3_best_53 : decode cX3_best 53 = .ok (.iload 6, 2) := by decide +kernel
theorem dX3_best_55 : decode cX3_best 55 = .ok (.iload_n 2, 1) := by decide +kernel
theorem dX3_best_56 : decode cX3_best 56 = .ok (.iadd, 1) := by decide +kernel
theorem dX3_best_57 : decode cX3_best 57 = .ok (.invokestatic 192, 3) := by decide +kernel
theorem dX3_best_60 : decode cX3_best 60 = .ok (.istore 7, 2) := by decide +kernel
theorem dX3_best_62 : decode cX3_best 62 = .ok (.iload 7, 2) := by decide +kernel
theorem dX3_best_64 : decode cX3_best 64 = .ok (.iload 5, 2) := by decide +kernel
theorem dX3_best_66 : decode cX3_best 66 = .ok (.if_icmp .le 11, 3) := by decide +kernel
theorem dX3_best_69 : decode cX3_best 69 = .ok (.iload 6, 2) := by decide +kernel
theorem dX3_best_71 : decode cX3_best 71 = .ok (.istore 4, 2) := by decide +kernel
theorem dX3_best_73 : decode cX3_best 73 = .ok (.iload 7, 2) := by decide +kernel
theorem dX3_best_75 : decode cX3_best 75 = .ok (.istore 5, 2) := by decide +kernel
theorem dX3_best_77 : decode cX3_best 77 = .ok (.iinc 6 1, 3) := by decide +kernel
theorem dX3_best_80 : decode cX3_best 80 = .ok (.goto (-39), 3) := by decide +kernel
theorem dX3_best_83 : decode cX3_best 83 = .ok (.iload 4, 2) := by decide +kernel
theorem dX3_best_85 : decode cX3_best 85 = .ok (.ireturn, 1) := by decide +kernel
set_option maxRecDepth 20000 in
theorem ggX3_saves_X3_setAt : GoodIn wsX3_saves wsX3_setAt := goodIn_ca (goodIn_r _ [5, 6, 7, 8, 9, 10, 4, 11, 12, 45, 46, 47, 48, 49, 50] (by decide +kernel) (by decide +kernel)) (goodIn_sub (fun _ h => List.mem_cons_of_mem _ (List.mem_append_left _ (List.mem_append_right _ h))) (by decide +kernel))
set_option maxRecDepth 20000 in
theorem gX3_saves_X3_setAt : GoodIn wsX3_saves (wsV RX3 42 RX3 yX3_setAt wsX3_setAt) := goodIn_app (goodIn_of _ (by decide +kernel)) ggX3_saves_X3_setAt
set_option maxRecDepth 20000 in
theorem ggX3_saves_X3_checkSet : GoodIn wsX3_saves wsX3_checkSet := goodIn_ca (goodIn_r _ [15, 6, 7] (by decide +kernel) (by decide +kernel)) (goodIn_sub (fun _ h => List.mem_cons_of_mem _ (List.mem_append_left _ (List.mem_append_right _ h))) (by decide +kernel))
set_option maxRecDepth 20000 in
theorem gX3_saves_X3_checkSet : GoodIn wsX3_saves (va_wsS RX3 196 yX3_checkSet wsX3_checkSet) := goodIn_app (goodIn_of _ (by decide +kernel)) ggX3_saves_X3_checkSet
set_option maxRecDepth 20000 in
theorem ggX3_saves_X3_checkFamily : GoodIn wsX3_saves wsX3_checkFamily := goodIn_ca (goodIn_r _ [18, 19, 20] (by decide +kernel) (by decide +kernel)) (goodIn_sub (fun _ h => List.mem_cons_of_mem _ (List.mem_append_right _ h)) (by decide +kernel))
set_option maxRecDepth 20000 in
theorem gX3_saves_X3_checkFamily : GoodIn wsX3_saves (va_wsS RX3 161 yX3_checkFamily wsX3_checkFamily) := goodIn_app (goodIn_of _ (by decide +kernel)) ggX3_saves_X3_checkFamily
set_option maxRecDepth 20000 in
theorem ggX3_saves_X3_takeCover : GoodIn wsX3_saves wsX3_takeCover := goodIn_r _ [24, 25, 26, 27, 28, 29, 30, 31, 32, 33, 34, 4, 35, 36, 37, 38, 39, 8, 9, 10, 11, 12, 40, 41, 42, 43, 44, 45, 46, 47, 48, 49, 50, 51] (by decide +kernel) (by decide +kernel)
set_option maxRecDepth 20000 in
theorem gX3_saves_X3_takeCover : GoodIn wsX3_saves (wsV RX3 181 RX3 yX3_takeCover wsX3_takeCover) := goodIn_app (goodIn_of _ (by decide +kernel)) ggX3_saves_X3_takeCover
theorem dX3_saves_0 : decode cX3_saves 0 = .ok (.aload_n 0, 1) := by decide +kernel
theorem dX3_saves_1 : decode cX3_saves 1 = .ok (.iload_n 2, 1) := by decide +kernel
theorem dX3_saves_2 : decode cX3_saves 2 = .ok (.invokevirtual 42, 3) := by decide +kernel
theorem dX3_saves_5 : decode cX3_saves 5 = .ok (.astore 4, 2) := by decide +kernel
theorem dX3_saves_7 : decode cX3_saves 7 = .ok (.iload_n 3, 1) := by decide +kernel
theorem dX3_saves_8 : decode cX3_saves 8 = .ok (.invokestatic 196, 3) := by decide +kernel
theorem dX3_saves_11 : decode cX3_saves 11 = .ok (.iload_n 1, 1) := by decide +kernel
theorem dX3_saves_12 : decode cX3_saves 12 = .ok (.invokestatic 161, 3) := by decide +kernel
theorem dX3_saves_15 : decode cX3_saves 15 = .ok (.aload_n 0, 1) := by decide +kernel
theorem dX3_saves_16 : decode cX3_saves 16 = .ok (.iload_n 1, 1) := by decide +kernel
theorem dX3_saves_17 : decode cX3_saves 17 = .ok (.iconst 1, 1) := by decide +kernel
theorem dX3_saves_18 : decode cX3_saves 18 = .ok (.iload_n 3, 1) := by decide +kernel
theorem dX3_saves_19 : decode cX3_saves 19 = .ok (.ishl, 1) := by decide +kernel
theorem dX3_saves_20 : decode cX3_saves 20 = .ok (.ior, 1) := by decide +kernel
theorem dX3_saves_21 : decode cX3_saves 21 = .ok (.aload 4, 2) := by decide +kernel
theorem dX3_saves_23 : decode cX3_saves 23 = .ok (.invokevirtual 181, 3) := by decide +kernel
theorem dX3_saves_26 : decode cX3_saves 26 = .ok (.istore 5, 2) := by decide +kernel
theorem dX3_saves_28 : decode cX3_saves 28 = .ok (.iload 5, 2) := by decide +kernel
theorem dX3_saves_30 : decode cX3_saves 30 = .ok (.iconst (-1), 1) := by decide +kernel
theorem dX3_saves_31 : decode cX3_saves 31 = .ok (.if_icmp .ne 5, 3) := by decide +kernel
theorem dX3_saves_34 : decode cX3_saves 34 = .ok (.iconst (-1), 1) := by decide +kernel
theorem dX3_saves_35 : decode cX3_saves 35 = .ok (.ireturn, 1) := by decide +kernel
theorem dX3_saves_36 : decode cX3_saves 36 = .ok (.aload_n 0, 1) := by decide +kernel
theorem dX3_saves_37 : decode cX3_saves 37 = .ok (.iload_n 1, 1) := by decide +kernel
theorem dX3_saves_38 : decode cX3_saves 38 = .ok (.aload 4, 2) := by decide +kernel
theorem dX3_saves_40 : decode cX3_saves 40 = .ok (.invokevirtual 181, 3) := by decide +kernel
theorem dX3_saves_43 : decode cX3_saves 43 = .ok (.istore 6, 2) := by decide +kernel
theorem dX3_saves_45 : decode cX3_saves 45 = .ok (.iload 6, 2) := by decide +kernel
theorem dX3_saves_47 : decode cX3_saves 47 = .ok (.iconst (-1), 1) := by decide +kernel
theorem dX3_saves_48 : decode cX3_saves 48 = .ok (.if_icmp .ne 9, 3) := by decide +kernel
theorem dX3_saves_51 : decode cX3_saves 51 = .ok (.sipush 1000, 3) := by decide +kernel
theorem dX3_saves_54 : decode cX3_saves 54 = .ok (.goto 8, 3) := by decide +kernel
theorem dX3_saves_57 : decode cX3_saves 57 = .ok (.iload 6, 2) := by decide +kernel
theorem dX3_saves_59 : decode cX3_saves 59 = .ok (.iload 5, 2) := by decide +kernel
theorem dX3_saves_61 : decode cX3_saves 61 = .ok (.isub, 1) := by decide +kernel
theorem dX3_saves_62 : decode cX3_saves 62 = .ok (.ireturn, 1) := by decide +kernel
set_option maxRecDepth 20000 in
theorem ggX3_digest_X3_setAt : GoodIn wsX3_digest wsX3_setAt := goodIn_ca (goodIn_r _ [7, 8, 9, 10, 11, 12, 6, 13, 14, 169, 170, 171, 172, 173, 174] (by decide +kernel) (by decide +kernel)) (goodIn_sub (fun _ h => List.mem_cons_of_mem _ (List.mem_append_right _ h)) (by decide +kernel))
set_option maxRecDepth 20000 in
theorem gX3_digest_X3_setAt : GoodIn wsX3_digest (wsV RX3 42 RX3 yX3_setAt wsX3_setAt) := goodIn_app (goodIn_of _ (by decide +kernel)) ggX3_digest_X3_setAt
set_option maxRecDepth 20000 in
theorem ggX3_digest_X3_digestOfSet : GoodIn wsX3_digest wsX3_digestOfSet := goodIn_r _ [18, 2, 19, 20, 21, 22, 6, 23, 24, 25, 26, 27, 28, 29, 30, 31, 32, 33, 34, 35, 36, 37, 38, 39, 40, 41, 42, 43, 44, 45, 46, 47, 48, 49, 50, 51, 52, 53, 54, 55, 56, 57, 58, 59, 60, 61, 62, 63, 64, 65, 66, 67, 68, 69, 70, 71, 72, 73, 74, 75, 76, 77, 78, 79, 80, 81, 82, 83, 84, 85, 86, 169, 170, 171, 172, 173, 174, 175, 176, 177, 178] (by decide +kernel) (by decide +kernel)
set_option maxRecDepth 20000 in
theorem gX3_digest_X3_digestOfSet : GoodIn wsX3_digest (wsV RX3 201 RX3 yX3_digestOfSet wsX3_digestOfSet) := goodIn_app (goodIn_of _ (by decide +kernel)) ggX3_digest_X3_digestOfSet
set_option maxRecDepth 20000 in
theorem ggX3_digest_X3_functionAt : GoodIn wsX3_digest wsX3_functionAt := goodIn_ca (goodIn_r _ [90, 8, 9, 91, 169, 170, 171, 172, 173, 174] (by decide +kernel) (by decide +kernel)) (goodIn_sub (fun _ h => List.mem_cons_of_mem _ (List.mem_append_right _ h)) (by decide +kernel))
set_option maxRecDepth 20000 in
theorem gX3_digest_X3_functionAt : GoodIn wsX3_digest (wsV RX3 135 RX3 yX3_functionAt wsX3_functionAt) := goodIn_app (goodIn_of _ (by decide +kernel)) ggX3_digest_X3_functionAt
set_option maxRecDepth 20000 in
theorem ggX3_digest_X3_digestOfFunction : GoodIn wsX3_digest wsX3_digestOfFunction := goodIn_r _ [94, 2, 95, 96, 6, 97, 98, 99, 100, 101, 102, 103, 104, 105, 106, 107, 108, 109, 110, 111, 112, 113, 114, 115, 116, 117, 118, 119, 120, 121, 122, 123, 124, 125, 126, 127, 128, 129, 130, 179] (by decide +kernel) (by decide +kernel)
set_option maxRecDepth 20000 in
theorem gX3_digest_X3_digestOfFunction : GoodIn wsX3_digest (va_wsS RX3 205 yX3_digestOfFunction wsX3_digestOfFunction) := goodIn_app (goodIn_of _ (by decide +kernel)) ggX3_digest_X3_digestOfFunction
set_option maxRecDepth 20000 in
theorem ggX3_digest_X3_countThicker : GoodIn wsX3_digest wsX3_countThicker := goodIn_r _ [134, 135, 136, 137, 6, 138, 139, 140, 141, 142, 10, 11, 12, 13, 14, 143, 30, 31, 27, 32, 33, 169, 170, 171, 172, 173, 174, 175] (by decide +kernel) (by decide +kernel)
set_option maxRecDepth 20000 in
theorem gX3_digest_X3_countThicker : GoodIn wsX3_digest (wsV RX3 178 RX3 yX3_countThicker wsX3_countThicker) := goodIn_app (goodIn_of _ (by decide +kernel)) ggX3_digest_X3_countThicker
set_option maxRecDepth 20000 in
theorem ggX3_digest_X3_countPins : GoodIn wsX3_digest wsX3_countPins := goodIn_r _ [147, 148, 149, 150, 6, 151, 139, 140, 141, 142, 10, 11, 12, 13, 14, 143, 30, 31, 27, 32, 33, 152, 153, 154, 155, 29, 169, 170, 171, 172, 173, 174, 175] (by decide +kernel) (by decide +kernel)
set_option maxRecDepth 20000 in
theorem gX3_digest_X3_countPins : GoodIn wsX3_digest (wsV RX3 187 RX3 yX3_countPins wsX3_countPins) := goodIn_app (goodIn_of _ (by decide +kernel)) ggX3_digest_X3_countPins
set_option maxRecDepth 20000 in
theorem ggX3_digest_X3_takeCover : GoodIn wsX3_digest wsX3_takeCover := goodIn_r _ [159, 160, 143, 30, 31, 27, 32, 33, 161, 162, 163, 6, 164, 139, 140, 141, 142, 10, 11, 12, 13, 14, 165, 166, 167, 168, 29, 169, 170, 171, 172, 173, 174, 175] (by decide +kernel) (by decide +kernel)
set_option maxRecDepth 20000 in
theorem gX3_digest_X3_takeCover : GoodIn wsX3_digest (wsV RX3 181 RX3 yX3_takeCover wsX3_takeCover) := goodIn_app (goodIn_of _ (by decide +kernel)) ggX3_digest_X3_takeCover
theorem dX3_digest_0 : decode cX3_digest 0 = .ok (.ldc2_w 199, 3) := by decide +kernel
theorem dX3_digest_3 : decode cX3_digest 3 = .ok (.lstore_n 1, 1) := by decide +kernel
theorem dX3_digest_4 : decode cX3_digest 4 = .ok (.iconst 0, 1) := by decide +kernel
theorem dX3_digest_5 : decode cX3_digest 5 = .ok (.istore_n 3, 1) := by decide +kernel
theorem dX3_digest_6 : decode cX3_digest 6 = .ok (.iload_n 3, 1) := by decide +kernel
theorem dX3_digest_7 : decode cX3_digest 7 = .ok (.bipush 8, 2) := by decide +kernel
theorem dX3_digest_9 : decode cX3_digest 9 = .ok (.if_icmp .ge 20, 3) := by decide +kernel
theorem dX3_digest_12 : decode cX3_digest 12 = .ok (.aload_n 0, 1) := by decide +kernel
theorem dX3_digest_13 : decode cX3_digest 13 = .ok (.lload_n 1, 1) := by decide +kernel
theorem dX3_digest_14 : decode cX3_digest 14 = .ok (.aload_n 0, 1) := by decide +kernel
theorem dX3_digest_15 : decode cX3_digest 15 = .ok (.iload_n 3, 1) := by decide +kernel
theorem dX3_digest_16 : decode cX3_digest 16 = .ok (.invokevirtual 42, 3) := by decide +kernel
theorem dX3_digest_19 : decode cX3_digest 19 = .ok (.invokevirtual 201, 3) := by decide +kernel
theorem dX3_digest_22 : decode cX3_digest 22 = .ok (.lstore_n 1, 1) := by decide +kernel
theorem dX3_digest_23 : decode cX3_digest 23 = .ok (.iinc 3 1, 3) := by decide +kernel
theorem dX3_digest_26 : decode cX3_digest 26 = .ok (.goto (-20), 3) := by decide +kernel
theorem dX3_digest_29 : decode cX3_digest 29 = .ok (.iconst 0, 1) := by decide +kernel
theorem dX3_digest_30 : decode cX3_digest 30 = .ok (.istore_n 3, 1) := by decide +kernel
theorem dX3_digest_31 : decode cX3_digest 31 = .ok (.iload_n 3, 1) := by decide +kernel
theorem dX3_digest_32 : decode cX3_digest 32 = .ok (.iconst 5, 1) := by decide +kernel
theorem dX3_digest_33 : decode cX3_digest 33 = .ok (.if_icmp .ge 19, 3) := by decide +kernel
theorem dX3_digest_36 : decode cX3_digest 36 = .ok (.lload_n 1, 1) := by decide +kernel
theorem dX3_digest_37 : decode cX3_digest 37 = .ok (.aload_n 0, 1) := by decide +kernel
theorem dX3_digest_38 : decode cX3_digest 38 = .ok (.iload_n 3, 1) := by decide +kernel
theorem dX3_digest_39 : decode cX3_digest 39 = .ok (.invokevirtual 135, 3) := by decide +kernel
theorem dX3_digest_42 : decode cX3_digest 42 = .ok (.invokestatic 205, 3) := by decide +kernel
theorem dX3_digest_45 : decode cX3_digest 45 = .ok (.lstore_n 1, 1) := by decide +kernel
theorem dX3_digest_46 : decode cX3_digest 46 = .ok (.iinc 3 1, 3) := by decide +kernel
theorem dX3_digest_49 : decode cX3_digest 49 = .ok (.goto (-18), 3) := by decide +kernel
theorem dX3_digest_52 : decode cX3_digest 52 = .ok (.lload_n 1, 1) := by decide +kernel
theorem dX3_digest_53 : decode cX3_digest 53 = .ok (.ldc2_w 209, 3) := by decide +kernel
theorem dX3_digest_56 : decode cX3_digest 56 = .ok (.lmul, 1) := by decide +kernel
theorem dX3_digest_57 : decode cX3_digest 57 = .ok (.aload_n 0, 1) := by decide +kernel
theorem dX3_digest_58 : decode cX3_digest 58 = .ok (.sipush 255, 3) := by decide +kernel
theorem dX3_digest_61 : decode cX3_digest 61 = .ok (.iconst 1, 1) := by decide +kernel
theorem dX3_digest_62 : decode cX3_digest 62 = .ok (.invokevirtual 178, 3) := by decide +kernel
theorem dX3_digest_65 : decode cX3_digest 65 = .ok (.i2l, 1) := by decide +kernel
theorem dX3_digest_66 : decode cX3_digest 66 = .ok (.ladd, 1) := by decide +kernel
theorem dX3_digest_67 : decode cX3_digest 67 = .ok (.lstore_n 1, 1) := by decide +kernel
theorem dX3_digest_68 : decode cX3_digest 68 = .ok (.lload_n 1, 1) := by decide +kernel
theorem dX3_digest_69 : decode cX3_digest 69 = .ok (.ldc2_w 209, 3) := by decide +kernel
theorem dX3_digest_72 : decode cX3_digest 72 = .ok (.lmul, 1) := by decide +kernel
theorem dX3_digest_73 : decode cX3_digest 73 = .ok (.aload_n 0, 1) := by decide +kernel
theorem dX3_digest_74 : decode cX3_digest 74 = .ok (.sipush 255, 3) := by decide +kernel
theorem dX3_digest_77 : decode cX3_digest 77 = .ok (.iconst 2, 1) := by decide +kernel
theorem dX3_digest_78 : decode cX3_digest 78 = .ok (.invokevirtual 178, 3) := by decide +kernel
theorem dX3_digest_81 : decode cX3_digest 81 = .ok (.i2l, 1) := by decide +kernel
theorem dX3_digest_82 : decode cX3_digest 82 = .ok (.ladd, 1) := by decide +kernel
theorem dX3_digest_83 : decode cX3_digest 83 = .ok (.lstore_n 1, 1) := by decide +kernel
theorem dX3_digest_84 : decode cX3_digest 84 = .ok (.lload_n 1, 1) := by decide +kernel
theorem dX3_digest_85 : decode cX3_digest 85 = .ok (.ldc2_w 209, 3) := by decide +kernel
theorem dX3_digest_88 : decode cX3_digest 88 = .ok (.lmul, 1) := by decide +kernel
theorem dX3_digest_89 : decode cX3_digest 89 = .ok (.aload_n 0, 1) := by decide +kernel
theorem dX3_digest_90 : decode cX3_digest 90 = .ok (.sipush 255, 3) := by decide +kernel
theorem dX3_digest_93 : decode cX3_digest 93 = .ok (.invokevirtual 187, 3) := by decide +kernel
theorem dX3_digest_96 : decode cX3_digest 96 = .ok (.i2l, 1) := by decide +kernel
theorem dX3_digest_97 : decode cX3_digest 97 = .ok (.ladd, 1) := by decide +kernel
theorem dX3_digest_98 : decode cX3_digest 98 = .ok (.lstore_n 1, 1) := by decide +kernel
theorem dX3_digest_99 : decode cX3_digest 99 = .ok (.lload_n 1, 1) := by decide +kernel
theorem dX3_digest_100 : decode cX3_digest 100 = .ok (.ldc2_w 209, 3) := by decide +kernel
theorem dX3_digest_103 : decode cX3_digest 103 = .ok (.lmul, 1) := by decide +kernel
theorem dX3_digest_104 : decode cX3_digest 104 = .ok (.aload_n 0, 1) := by decide +kernel
theorem dX3_digest_105 : decode cX3_digest 105 = .ok (.sipush 255, 3) := by decide +kernel
theorem dX3_digest_108 : decode cX3_digest 108 = .ok (.invokevirtual 187, 3) := by decide +kernel
theorem dX3_digest_111 : decode cX3_digest 111 = .ok (.i2l, 1) := by decide +kernel
theorem dX3_digest_112 : decode cX3_digest 112 = .ok (.ladd, 1) := by decide +kernel
theorem dX3_digest_113 : decode cX3_digest 113 = .ok (.lstore_n 1, 1) := by decide +kernel
theorem dX3_digest_114 : decode cX3_digest 114 = .ok (.iconst 0, 1) := by decide +kernel
theorem dX3_digest_115 : decode cX3_digest 115 = .ok (.istore_n 3, 1) := by decide +kernel
theorem dX3_digest_116 : decode cX3_digest 116 = .ok (.iload_n 3, 1) := by decide +kernel
theorem dX3_digest_117 : decode cX3_digest 117 = .ok (.bipush 8, 2) := by decide +kernel
theorem dX3_digest_119 : decode cX3_digest 119 = .ok (.if_icmp .ge 33, 3) := by decide +kernel
theorem dX3_digest_122 : decode cX3_digest 122 = .ok (.lload_n 1, 1) := by decide +kernel
theorem dX3_digest_123 : decode cX3_digest 123 = .ok (.ldc2_w 209, 3) := by decide +kernel
theorem dX3_digest_126 : decode cX3_digest 126 = .ok (.lmul, 1) := by decide +kernel
theorem dX3_digest_127 : decode cX3_digest 127 = .ok (.aload_n 0, 1) := by decide +kernel
theorem dX3_digest_128 : decode cX3_digest 128 = .ok (.sipush 255, 3) := by decide +kernel
theorem dX3_digest_131 : decode cX3_digest 131 = .ok (.iconst 1, 1) := by decide +kernel
theorem dX3_digest_132 : decode cX3_digest 132 = .ok (.iload_n 3, 1) := by decide +kernel
theorem dX3_digest_133 : decode cX3_digest 133 = .ok (.ishl, 1) := by decide +kernel
theorem dX3_digest_134 : decode cX3_digest 134 = .ok (.ixor, 1) := by decide +kernel
theorem dX3_digest_135 : decode cX3_digest 135 = .ok (.aload_n 0, 1) := by decide +kernel
theorem dX3_digest_136 : decode cX3_digest 136 = .ok (.iload_n 3, 1) := by decide +kernel
theorem dX3_digest_137 : decode cX3_digest 137 = .ok (.invokevirtual 42, 3) := by decide +kernel
theorem dX3_digest_140 : decode cX3_digest 140 = .ok (.invokevirtual 181, 3) := by decide +kernel
theorem dX3_digest_143 : decode cX3_digest 143 = .ok (.i2l, 1) := by decide +kernel
theorem dX3_digest_144 : decode cX3_digest 144 = .ok (.ladd, 1) := by decide +kernel
theorem dX3_digest_145 : decode cX3_digest 145 = .ok (.lstore_n 1, 1) := by decide +kernel
theorem dX3_digest_146 : decode cX3_digest 146 = .ok (.iinc 3 1, 3) := by decide +kernel
theorem dX3_digest_149 : decode cX3_digest 149 = .ok (.goto (-33), 3) := by decide +kernel
theorem dX3_digest_152 : decode cX3_digest 152 = .ok (.lload_n 1, 1) := by decide +kernel
theorem dX3_digest_153 : decode cX3_digest 153 = .ok (.lreturn, 1) := by decide +kernel
theorem dX3_setOrNull_0 : decode cX3_setOrNull 0 = .ok (.iload_n 1, 1) := by decide +kernel
theorem dX3_setOrNull_1 : decode cX3_setOrNull 1 = .ok (.ifCond .lt 21, 3) := by decide +kernel
theorem dX3_setOrNull_4 : decode cX3_setOrNull 4 = .ok (.iload_n 1, 1) := by decide +kernel
theorem dX3_setOrNull_5 : decode cX3_setOrNull 5 = .ok (.aload_n 0, 1) := by decide +kernel
theorem dX3_setOrNull_6 : decode cX3_setOrNull 6 = .ok (.getfield 11, 3) := by decide +kernel
theorem dX3_setOrNull_9 : decode cX3_setOrNull 9 = .ok (.arraylength, 1) := by decide +kernel
theorem dX3_setOrNull_10 : decode cX3_setOrNull 10 = .ok (.if_icmp .ge 12, 3) := by decide +kernel
theorem dX3_setOrNull_13 : decode cX3_setOrNull 13 = .ok (.aload_n 0, 1) := by decide +kernel
theorem dX3_setOrNull_14 : decode cX3_setOrNull 14 = .ok (.getfield 11, 3) := by decide +kernel
theorem dX3_setOrNull_17 : decode cX3_setOrNull 17 = .ok (.iload_n 1, 1) := by decide +kernel
theorem dX3_setOrNull_18 : decode cX3_setOrNull 18 = .ok (.aaload, 1) := by decide +kernel
theorem dX3_setOrNull_19 : decode cX3_setOrNull 19 = .ok (.goto 4, 3) := by decide +kernel
theorem dX3_setOrNull_22 : decode cX3_setOrNull 22 = .ok (.aconst_null, 1) := by decide +kernel
theorem dX3_setOrNull_23 : decode cX3_setOrNull 23 = .ok (.areturn, 1) := by decide +kernel
set_option maxRecDepth 20000 in
theorem ggX3_setAt_X3_setOrNull : GoodIn wsX3_setAt wsX3_setOrNull := goodIn_r _ [7, 8, 9, 10, 11, 12, 13, 14] (by decide +kernel) (by decide +kernel)
set_option maxRecDepth 20000 in
theorem gX3_setAt_X3_setOrNull : GoodIn wsX3_setAt (wsV RX3 211 RX3 yX3_setOrNull wsX3_setOrNull) := goodIn_app (goodIn_of _ (by decide +kernel)) ggX3_setAt_X3_setOrNull
theorem dX3_setAt_0 : decode cX3_setAt 0 = .ok (.aload_n 0, 1) := by decide +kernel
theorem dX3_setAt_1 : decode cX3_setAt 1 = .ok (.iload_n 1, 1) := by decide +kernel
theorem dX3_setAt_2 : decode cX3_setAt 2 = .ok (.invokevirtual 211, 3) := by decide +kernel
theorem dX3_setAt_5 : decode cX3_setAt 5 = .ok (.astore_n 2, 1) := by decide +kernel
theorem dX3_setAt_6 : decode cX3_setAt 6 = .ok (.aload_n 2, 1) := by decide +kernel
theorem dX3_setAt_7 : decode cX3_setAt 7 = .ok (.ifnonnull 13, 3) := by decide +kernel
theorem dX3_setAt_10 : decode cX3_setAt 10 = .ok (.new 115, 3) := by decide +kernel
theorem dX3_setAt_13 : decode cX3_setAt 13 = .ok (.dup, 1) := by decide +kernel
theorem dX3_setAt_14 : decode cX3_setAt 14 = .ok (.ldc 214, 2) := by decide +kernel
theorem dX3_setAt_16 : decode cX3_setAt 16 = .ok (.invokespecial 119, 3) := by decide +kernel
theorem dX3_setAt_19 : decode cX3_setAt 19 = .ok (.athrow, 1) := by decide +kernel
theorem dX3_setAt_20 : decode cX3_setAt 20 = .ok (.aload_n 2, 1) := by decide +kernel
theorem dX3_setAt_21 : decode cX3_setAt 21 = .ok (.areturn, 1) := by decide +kernel
theorem dX3_functionAt_0 : decode cX3_functionAt 0 = .ok (.iload_n 1, 1) := by decide +kernel
theorem dX3_functionAt_1 : decode cX3_functionAt 1 = .ok (.ifCond .lt 21, 3) := by decide +kernel
theorem dX3_functionAt_4 : decode cX3_functionAt 4 = .ok (.iload_n 1, 1) := by decide +kernel
theorem dX3_functionAt_5 : decode cX3_functionAt 5 = .ok (.aload_n 0, 1) := by decide +kernel
theorem dX3_functionAt_6 : decode cX3_functionAt 6 = .ok (.getfield 17, 3) := by decide +kernel
theorem dX3_functionAt_9 : decode cX3_functionAt 9 = .ok (.arraylength, 1) := by decide +kernel
theorem dX3_functionAt_10 : decode cX3_functionAt 10 = .ok (.if_icmp .ge 12, 3) := by decide +kernel
theorem dX3_functionAt_13 : decode cX3_functionAt 13 = .ok (.aload_n 0, 1) := by decide +kernel
theorem dX3_functionAt_14 : decode cX3_functionAt 14 = .ok (.getfield 17, 3) := by decide +kernel
theorem dX3_functionAt_17 : decode cX3_functionAt 17 = .ok (.iload_n 1, 1) := by decide +kernel
theorem dX3_functionAt_18 : decode cX3_functionAt 18 = .ok (.aaload, 1) := by decide +kernel
theorem dX3_functionAt_19 : decode cX3_functionAt 19 = .ok (.goto 4, 3) := by decide +kernel
theorem dX3_functionAt_22 : decode cX3_functionAt 22 = .ok (.aconst_null, 1) := by decide +kernel
theorem dX3_functionAt_23 : decode cX3_functionAt 23 = .ok (.astore_n 2, 1) := by decide +kernel
theorem dX3_functionAt_24 : decode cX3_functionAt 24 = .ok (.aload_n 2, 1) := by decide +kernel
theorem dX3_functionAt_25 : decode cX3_functionAt 25 = .ok (.ifnonnull 13, 3) := by decide +kernel
theorem dX3_functionAt_28 : decode cX3_functionAt 28 = .ok (.new 115, 3) := by decide +kernel
theorem dX3_functionAt_31 : decode cX3_functionAt 31 = .ok (.dup, 1) := by decide +kernel
theorem dX3_functionAt_32 : decode cX3_functionAt 32 = .ok (.ldc 216, 2) := by decide +kernel
theorem dX3_functionAt_34 : decode cX3_functionAt 34 = .ok (.invokespecial 119, 3) := by decide +kernel
theorem dX3_functionAt_37 : decode cX3_functionAt 37 = .ok (.athrow, 1) := by decide +kernel
theorem dX3_functionAt_38 : decode cX3_functionAt 38 = .ok (.aload_n 2, 1) := by decide +kernel
theorem dX3_functionAt_39 : decode cX3_functionAt 39 = .ok (.areturn, 1) := by decide +kernel
theorem dX3_checkSet_0 : decode cX3_checkSet 0 = .ok (.iload_n 0, 1) := by decide +kernel
theorem dX3_checkSet_1 : decode cX3_checkSet 1 = .ok (.ifCond .lt 9, 3) := by decide +kernel
theorem dX3_checkSet_4 : decode cX3_checkSet 4 = .ok (.iload_n 0, 1) := by decide +kernel
theorem dX3_checkSet_5 : decode cX3_checkSet 5 = .ok (.bipush 8, 2) := by decide +kernel
theorem dX3_checkSet_7 : decode cX3_checkSet 7 = .ok (.if_icmp .lt 13, 3) := by decide +kernel
theorem dX3_checkSet_10 : decode cX3_checkSet 10 = .ok (.new 115, 3) := by decide +kernel
theorem dX3_checkSet_13 : decode cX3_checkSet 13 = .ok (.dup, 1) := by decide +kernel
theorem dX3_checkSet_14 : decode cX3_checkSet 14 = .ok (.ldc 214, 2) := by decide +kernel
theorem dX3_checkSet_16 : decode cX3_checkSet 16 = .ok (.invokespecial 119, 3) := by decide +kernel
theorem dX3_checkSet_19 : decode cX3_checkSet 19 = .ok (.athrow, 1) := by decide +kernel
theorem dX3_checkSet_20 : decode cX3_checkSet 20 = .ok (.return_, 1) := by decide +kernel
theorem dX3_checkGrain_0 : decode cX3_checkGrain 0 = .ok (.iload_n 0, 1) := by decide +kernel
theorem dX3_checkGrain_1 : decode cX3_checkGrain 1 = .ok (.ifCond .lt 10, 3) := by decide +kernel
theorem dX3_checkGrain_4 : decode cX3_checkGrain 4 = .ok (.iload_n 0, 1) := by decide +kernel
theorem dX3_checkGrain_5 : decode cX3_checkGrain 5 = .ok (.sipush 201, 3) := by decide +kernel
theorem dX3_checkGrain_8 : decode cX3_checkGrain 8 = .ok (.if_icmp .lt 13, 3) := by decide +kernel
theorem dX3_checkGrain_11 : decode cX3_checkGrain 11 = .ok (.new 115, 3) := by decide +kernel
theorem dX3_checkGrain_14 : decode cX3_checkGrain 14 = .ok (.dup, 1) := by decide +kernel
theorem dX3_checkGrain_15 : decode cX3_checkGrain 15 = .ok (.ldc 218, 2) := by decide +kernel
theorem dX3_checkGrain_17 : decode cX3_checkGrain 17 = .ok (.invokespecial 119, 3) := by decide +kernel
theorem dX3_checkGrain_20 : decode cX3_checkGrain 20 = .ok (.athrow, 1) := by decide +kernel
theorem dX3_checkGrain_21 : decode cX3_checkGrain 21 = .ok (.return_, 1) := by decide +kernel
theorem dX3_checkChoice_0 : decode cX3_checkChoice 0 = .ok (.iload_n 0, 1) := by decide +kernel
theorem dX3_checkChoice_1 : decode cX3_checkChoice 1 = .ok (.ifCond .lt 8, 3) := by decide +kernel
theorem dX3_checkChoice_4 : decode cX3_checkChoice 4 = .ok (.iload_n 0, 1) := by decide +kernel
theorem dX3_checkChoice_5 : decode cX3_checkChoice 5 = .ok (.iload_n 1, 1) := by decide +kernel
theorem dX3_checkChoice_6 : decode cX3_checkChoice 6 = .ok (.if_icmp .le 13, 3) := by decide +kernel
theorem dX3_checkChoice_9 : decode cX3_checkChoice 9 = .ok (.new 93, 3) := by decide +kernel
theorem dX3_checkChoice_12 : decode cX3_checkChoice 12 = .ok (.dup, 1) := by decide +kernel
theorem dX3_checkChoice_13 : decode cX3_checkChoice 13 = .ok (.ldc 220, 2) := by decide +kernel
theorem dX3_checkChoice_15 : decode cX3_checkChoice 15 = .ok (.invokespecial 97, 3) := by decide +kernel
theorem dX3_checkChoice_18 : decode cX3_checkChoice 18 = .ok (.athrow, 1) := by decide +kernel
theorem dX3_checkChoice_19 : decode cX3_checkChoice 19 = .ok (.return_, 1) := by decide +kernel
set_option maxRecDepth 20000 in
theorem ggX3_checkSpan_X3_checkChoice : GoodIn wsX3_checkSpan wsX3_checkChoice := goodIn_ca (goodIn_r _ [6, 1, 2] (by decide +kernel) (by decide +kernel)) (goodIn_sub (fun _ h => List.mem_cons_of_mem _ (List.mem_append_right _ h)) (by decide +kernel))
set_option maxRecDepth 20000 in
theorem gX3_checkSpan_X3_checkChoice : GoodIn wsX3_checkSpan (va_wsS RX3 61 yX3_checkChoice wsX3_checkChoice) := goodIn_app (goodIn_of _ (by decide +kernel)) ggX3_checkSpan_X3_checkChoice
theorem dX3_checkSpan_0 : decode cX3_checkSpan 0 = .ok (.iload_n 0, 1) := by decide +kernel
theorem dX3_checkSpan_1 : decode cX3_checkSpan 1 = .ok (.ifCond .lt 14, 3) := by decide +kernel
theorem dX3_checkSpan_4 : decode cX3_checkSpan 4 = .ok (.iload_n 1, 1) := by decide +kernel
theorem dX3_checkSpan_5 : decode cX3_checkSpan 5 = .ok (.bipush 100, 2) := by decide +kernel
theorem dX3_checkSpan_7 : decode cX3_checkSpan 7 = .ok (.if_icmp .gt 8, 3) := by decide +kernel
theorem dX3_checkSpan_10 : decode cX3_checkSpan 10 = .ok (.iload_n 1, 1) := by decide +kernel
theorem dX3_checkSpan_11 : decode cX3_checkSpan 11 = .ok (.iload_n 0, 1) := by decide +kernel
theorem dX3_checkSpan_12 : decode cX3_checkSpan 12 = .ok (.if_icmp .ge 13, 3) := by decide +kernel
theorem dX3_checkSpan_15 : decode cX3_checkSpan 15 = .ok (.new 93, 3) := by decide +kernel
theorem dX3_checkSpan_18 : decode cX3_checkSpan 18 = .ok (.dup, 1) := by decide +kernel
theorem dX3_checkSpan_19 : decode cX3_checkSpan 19 = .ok (.ldc 222, 2) := by decide +kernel
theorem dX3_checkSpan_21 : decode cX3_checkSpan 21 = .ok (.invokespecial 97, 3) := by decide +kernel
theorem dX3_checkSpan_24 : decode cX3_checkSpan 24 = .ok (.athrow, 1) := by decide +kernel
theorem dX3_checkSpan_25 : decode cX3_checkSpan 25 = .ok (.iload_n 2, 1) := by decide +kernel
theorem dX3_checkSpan_26 : decode cX3_checkSpan 26 = .ok (.iconst 3, 1) := by decide +kernel
theorem dX3_checkSpan_27 : decode cX3_checkSpan 27 = .ok (.invokestatic 61, 3) := by decide +kernel
theorem dX3_checkSpan_30 : decode cX3_checkSpan 30 = .ok (.return_, 1) := by decide +kernel
theorem dX3_checkMove_0 : decode cX3_checkMove 0 = .ok (.iload_n 0, 1) := by decide +kernel
theorem dX3_checkMove_1 : decode cX3_checkMove 1 = .ok (.bipush (-100), 2) := by decide +kernel
theorem dX3_checkMove_3 : decode cX3_checkMove 3 = .ok (.if_icmp .lt 9, 3) := by decide +kernel
theorem dX3_checkMove_6 : decode cX3_checkMove 6 = .ok (.iload_n 0, 1) := by decide +kernel
theorem dX3_checkMove_7 : decode cX3_checkMove 7 = .ok (.bipush 100, 2) := by decide +kernel
theorem dX3_checkMove_9 : decode cX3_checkMove 9 = .ok (.if_icmp .le 13, 3) := by decide +kernel
theorem dX3_checkMove_12 : decode cX3_checkMove 12 = .ok (.new 93, 3) := by decide +kernel
theorem dX3_checkMove_15 : decode cX3_checkMove 15 = .ok (.dup, 1) := by decide +kernel
theorem dX3_checkMove_16 : decode cX3_checkMove 16 = .ok (.ldc 224, 2) := by decide +kernel
theorem dX3_checkMove_18 : decode cX3_checkMove 18 = .ok (.invokespecial 97, 3) := by decide +kernel
theorem dX3_checkMove_21 : decode cX3_checkMove 21 = .ok (.athrow, 1) := by decide +kernel
theorem dX3_checkMove_22 : decode cX3_checkMove 22 = .ok (.return_, 1) := by decide +kernel
theorem dX3_checkFamily_0 : decode cX3_checkFamily 0 = .ok (.iload_n 0, 1) := by decide +kernel
theorem dX3_checkFamily_1 : decode cX3_checkFamily 1 = .ok (.ifCond .lt 10, 3) := by decide +kernel
theorem dX3_checkFamily_4 : decode cX3_checkFamily 4 = .ok (.iload_n 0, 1) := by decide +kernel
theorem dX3_checkFamily_5 : decode cX3_checkFamily 5 = .ok (.sipush 255, 3) := by decide +kernel
theorem dX3_checkFamily_8 : decode cX3_checkFamily 8 = .ok (.if_icmp .le 13, 3) := by decide +kernel
theorem dX3_checkFamily_11 : decode cX3_checkFamily 11 = .ok (.new 93, 3) := by decide +kernel
theorem dX3_checkFamily_14 : decode cX3_checkFamily 14 = .ok (.dup, 1) := by decide +kernel
theorem dX3_checkFamily_15 : decode cX3_checkFamily 15 = .ok (.ldc 226, 2) := by decide +kernel
theorem dX3_checkFamily_17 : decode cX3_checkFamily 17 = .ok (.invokespecial 97, 3) := by decide +kernel
theorem dX3_checkFamily_20 : decode cX3_checkFamily 20 = .ok (.athrow, 1) := by decide +kernel
theorem dX3_checkFamily_21 : decode cX3_checkFamily 21 = .ok (.return_, 1) := by decide +kernel
theorem dX3_firstGrain_0 : decode cX3_firstGrain 0 = .ok (.iload_n 0, 1) := by decide +kernel
theorem dX3_firstGrain_1 : decode cX3_firstGrain 1 = .ok (.iload_n 1, 1) := by decide +kernel
theorem dX3_firstGrain_2 : decode cX3_firstGrain 2 = .ok (.if_icmp .eq 9, 3) := by decide +kernel
theorem dX3_firstGrain_5 : decode cX3_firstGrain 5 = .ok (.iload_n 2, 1) := by decide +kernel
theorem dX3_firstGrain_6 : decode cX3_firstGrain 6 = .ok (.iconst 1, 1) := by decide +kernel
theorem dX3_firstGrain_7 : decode cX3_firstGrain 7 = .ok (.iand, 1) := by decide +kernel
theorem dX3_firstGrain_8 : decode cX3_firstGrain 8 = .ok (.ifCond .eq 9, 3) := by decide +kernel
theorem dX3_firstGrain_11 : decode cX3_firstGrain 11 = .ok (.iconst 2, 1) := by decide +kernel
theorem dX3_firstGrain_12 : decode cX3_firstGrain 12 = .ok (.iload_n 0, 1) := by decide +kernel
theorem dX3_firstGrain_13 : decode cX3_firstGrain 13 = .ok (.imul, 1) := by decide +kernel
theorem dX3_firstGrain_14 : decode cX3_firstGrain 14 = .ok (.goto 8, 3) := by decide +kernel
theorem dX3_firstGrain_17 : decode cX3_firstGrain 17 = .ok (.iconst 2, 1) := by decide +kernel
theorem dX3_firstGrain_18 : decode cX3_firstGrain 18 = .ok (.iload_n 0, 1) := by decide +kernel
theorem dX3_firstGrain_19 : decode cX3_firstGrain 19 = .ok (.imul, 1) := by decide +kernel
theorem dX3_firstGrain_20 : decode cX3_firstGrain 20 = .ok (.iconst 1, 1) := by decide +kernel
theorem dX3_firstGrain_21 : decode cX3_firstGrain 21 = .ok (.iadd, 1) := by decide +kernel
theorem dX3_firstGrain_22 : decode cX3_firstGrain 22 = .ok (.ireturn, 1) := by decide +kernel
theorem dX3_lastGrain_0 : decode cX3_lastGrain 0 = .ok (.iload_n 0, 1) := by decide +kernel
theorem dX3_lastGrain_1 : decode cX3_lastGrain 1 = .ok (.iload_n 1, 1) := by decide +kernel
theorem dX3_lastGrain_2 : decode cX3_lastGrain 2 = .ok (.if_icmp .eq 9, 3) := by decide +kernel
theorem dX3_lastGrain_5 : decode cX3_lastGrain 5 = .ok (.iload_n 2, 1) := by decide +kernel
theorem dX3_lastGrain_6 : decode cX3_lastGrain 6 = .ok (.iconst 2, 1) := by decide +kernel
theorem dX3_lastGrain_7 : decode cX3_lastGrain 7 = .ok (.iand, 1) := by decide +kernel
theorem dX3_lastGrain_8 : decode cX3_lastGrain 8 = .ok (.ifCond .eq 9, 3) := by decide +kernel
theorem dX3_lastGrain_11 : decode cX3_lastGrain 11 = .ok (.iconst 2, 1) := by decide +kernel
theorem dX3_lastGrain_12 : decode cX3_lastGrain 12 = .ok (.iload_n 1, 1) := by decide +kernel
theorem dX3_lastGrain_13 : decode cX3_lastGrain 13 = .ok (.imul, 1) := by decide +kernel
theorem dX3_lastGrain_14 : decode cX3_lastGrain 14 = .ok (.goto 8, 3) := by decide +kernel
theorem dX3_lastGrain_17 : decode cX3_lastGrain 17 = .ok (.iconst 2, 1) := by decide +kernel
theorem dX3_lastGrain_18 : decode cX3_lastGrain 18 = .ok (.iload_n 1, 1) := by decide +kernel
theorem dX3_lastGrain_19 : decode cX3_lastGrain 19 = .ok (.imul, 1) := by decide +kernel
theorem dX3_lastGrain_20 : decode cX3_lastGrain 20 = .ok (.iconst 1, 1) := by decide +kernel
theorem dX3_lastGrain_21 : decode cX3_lastGrain 21 = .ok (.isub, 1) := by decide +kernel
theorem dX3_lastGrain_22 : decode cX3_lastGrain 22 = .ok (.ireturn, 1) := by decide +kernel
theorem dX3_isPoint_0 : decode cX3_isPoint 0 = .ok (.iload_n 0, 1) := by decide +kernel
theorem dX3_isPoint_1 : decode cX3_isPoint 1 = .ok (.iconst 1, 1) := by decide +kernel
theorem dX3_isPoint_2 : decode cX3_isPoint 2 = .ok (.iand, 1) := by decide +kernel
theorem dX3_isPoint_3 : decode cX3_isPoint 3 = .ok (.ifCond .ne 7, 3) := by decide +kernel
theorem dX3_isPoint_6 : decode cX3_isPoint 6 = .ok (.iconst 1, 1) := by decide +kernel
theorem dX3_isPoint_7 : decode cX3_isPoint 7 = .ok (.goto 4, 3) := by decide +kernel
theorem dX3_isPoint_10 : decode cX3_isPoint 10 = .ok (.iconst 0, 1) := by decide +kernel
theorem dX3_isPoint_11 : decode cX3_isPoint 11 = .ok (.ireturn, 1) := by decide +kernel
theorem dX3_isJoined_0 : decode cX3_isJoined 0 = .ok (.iload_n 2, 1) := by decide +kernel
theorem dX3_isJoined_1 : decode cX3_isJoined 1 = .ok (.tableswitch 69 0 2 #[27, 41, 55], 27) := by decide +kernel
theorem dX3_isJoined_28 : decode cX3_isJoined 28 = .ok (.iload_n 0, 1) := by decide +kernel
theorem dX3_isJoined_29 : decode cX3_isJoined 29 = .ok (.ifCond .ne 7, 3) := by decide +kernel
theorem dX3_isJoined_32 : decode cX3_isJoined 32 = .ok (.iload_n 1, 1) := by decide +kernel
theorem dX3_isJoined_33 : decode cX3_isJoined 33 = .ok (.ifCond .eq 7, 3) := by decide +kernel
theorem dX3_isJoined_36 : decode cX3_isJoined 36 = .ok (.iconst 1, 1) := by decide +kernel
theorem dX3_isJoined_37 : decode cX3_isJoined 37 = .ok (.goto 4, 3) := by decide +kernel
theorem dX3_isJoined_40 : decode cX3_isJoined 40 = .ok (.iconst 0, 1) := by decide +kernel
theorem dX3_isJoined_41 : decode cX3_isJoined 41 = .ok (.ireturn, 1) := by decide +kernel
theorem dX3_isJoined_42 : decode cX3_isJoined 42 = .ok (.iload_n 0, 1) := by decide +kernel
theorem dX3_isJoined_43 : decode cX3_isJoined 43 = .ok (.ifCond .eq 11, 3) := by decide +kernel
theorem dX3_isJoined_46 : decode cX3_isJoined 46 = .ok (.iload_n 1, 1) := by decide +kernel
theorem dX3_isJoined_47 : decode cX3_isJoined 47 = .ok (.ifCond .eq 7, 3) := by decide +kernel
theorem dX3_isJoined_50 : decode cX3_isJoined 50 = .ok (.iconst 1, 1) := by decide +kernel
theorem dX3_isJoined_51 : decode cX3_isJoined 51 = .ok (.goto 4, 3) := by decide +kernel
theorem dX3_isJoined_54 : decode cX3_isJoined 54 = .ok (.iconst 0, 1) := by decide +kernel
theorem dX3_isJoined_55 : decode cX3_isJoined 55 = .ok (.ireturn, 1) := by decide +kernel
theorem dX3_isJoined_56 : decode cX3_isJoined 56 = .ok (.iload_n 0, 1) := by decide +kernel
theorem dX3_isJoined_57 : decode cX3_isJoined 57 = .ok (.ifCond .eq 11, 3) := by decide +kernel
theorem dX3_isJoined_60 : decode cX3_isJoined 60 = .ok (.iload_n 1, 1) := by decide +kernel
theorem dX3_isJoined_61 : decode cX3_isJoined 61 = .ok (.ifCond .ne 7, 3) := by decide +kernel
theorem dX3_isJoined_64 : decode cX3_isJoined 64 = .ok (.iconst 1, 1) := by decide +kernel
theorem dX3_isJoined_65 : decode cX3_isJoined 65 = .ok (.goto 4, 3) := by decide +kernel
theorem dX3_isJoined_68 : decode cX3_isJoined 68 = .ok (.iconst 0, 1) := by decide +kernel
theorem dX3_isJoined_69 : decode cX3_isJoined 69 = .ok (.ireturn, 1) := by decide +kernel
theorem dX3_isJoined_70 : decode cX3_isJoined 70 = .ok (.iload_n 0, 1) := by decide +kernel
theorem dX3_isJoined_71 : decode cX3_isJoined 71 = .ok (.iload_n 1, 1) := by decide +kernel
theorem dX3_isJoined_72 : decode cX3_isJoined 72 = .ok (.if_icmp .eq 7, 3) := by decide +kernel
theorem dX3_isJoined_75 : decode cX3_isJoined 75 = .ok (.iconst 1, 1) := by decide +kernel
theorem dX3_isJoined_76 : decode cX3_isJoined 76 = .ok (.goto 4, 3) := by decide +kernel
theorem dX3_isJoined_79 : decode cX3_isJoined 79 = .ok (.iconst 0, 1) := by decide +kernel
theorem dX3_isJoined_80 : decode cX3_isJoined 80 = .ok (.ireturn, 1) := by decide +kernel
set_option maxRecDepth 20000 in
theorem ggX3_changeSet_X0_invert : GoodIn wsX3_changeSet wsX0_invert := goodIn_r _ [5, 6, 7, 8, 4, 9, 10, 11, 12, 13, 14, 94] (by decide +kernel) (by decide +kernel)
set_option maxRecDepth 20000 in
theorem gX3_changeSet_X0_invert : GoodIn wsX3_changeSet (wsV RX3 228 RX0 yX0_invert wsX0_invert) := goodIn_app (goodIn_of _ (by decide +kernel)) ggX3_changeSet_X0_invert
set_option maxRecDepth 20000 in
theorem ggX3_changeSet_X0_dropEdgePoints : GoodIn wsX3_changeSet wsX0_dropEdgePoints := goodIn_r _ [18, 6, 7, 8, 4, 9, 10, 11, 12, 13, 14, 94] (by decide +kernel) (by decide +kernel)
set_option maxRecDepth 20000 in
theorem gX3_changeSet_X0_dropEdgePoints : GoodIn wsX3_changeSet (wsV RX3 231 RX0 yX0_dropEdgePoints wsX0_dropEdgePoints) := goodIn_app (goodIn_of _ (by decide +kernel)) ggX3_changeSet_X0_dropEdgePoints
set_option maxRecDepth 20000 in
theorem ggX3_changeSet_X0_addEdgePoints : GoodIn wsX3_changeSet wsX0_addEdgePoints := goodIn_r _ [22, 6, 7, 8, 4, 9, 10, 11, 12, 13, 14, 94] (by decide +kernel) (by decide +kernel)
set_option maxRecDepth 20000 in
theorem gX3_changeSet_X0_addEdgePoints : GoodIn wsX3_changeSet (wsV RX3 234 RX0 yX0_addEdgePoints wsX0_addEdgePoints) := goodIn_app (goodIn_of _ (by decide +kernel)) ggX3_changeSet_X0_addEdgePoints
set_option maxRecDepth 20000 in
theorem ggX3_changeSet_X0_keepLonePoints : GoodIn wsX3_changeSet wsX0_keepLonePoints := goodIn_r _ [26, 6, 7, 8, 4, 9, 10, 11, 12, 13, 14, 94] (by decide +kernel) (by decide +kernel)
set_option maxRecDepth 20000 in
theorem gX3_changeSet_X0_keepLonePoints : GoodIn wsX3_changeSet (wsV RX3 237 RX0 yX0_keepLonePoints wsX0_keepLonePoints) := goodIn_app (goodIn_of _ (by decide +kernel)) ggX3_changeSet_X0_keepLonePoints
set_option maxRecDepth 20000 in
theorem ggX3_changeSet_X0_mirror : GoodIn wsX3_changeSet wsX0_mirror := goodIn_r _ [30, 6, 7, 8, 4, 9, 10, 11, 12, 13, 14, 94] (by decide +kernel) (by decide +kernel)
set_option maxRecDepth 20000 in
theorem gX3_changeSet_X0_mirror : GoodIn wsX3_changeSet (wsV RX3 240 RX0 yX0_mirror wsX0_mirror) := goodIn_app (goodIn_of _ (by decide +kernel)) ggX3_changeSet_X0_mirror
set_option maxRecDepth 20000 in
theorem ggX3_changeSet_X3_keepLongest : GoodIn wsX3_changeSet wsX3_keepLongest := goodIn_r _ [35, 36, 37, 38, 39, 40, 41, 42, 43, 7, 8, 4, 9, 10, 44, 45, 46, 47, 48, 49, 50, 51, 52, 53, 54, 55, 56, 57, 58, 59, 60, 61, 62, 63, 64, 65, 66, 67, 68, 69, 70, 71, 72, 73, 74, 34, 75, 76, 77, 78, 79, 80, 81, 82, 83, 6, 11, 12, 13, 14, 84, 85, 95, 96, 97, 98, 99, 100, 101, 102, 103, 94] (by decide +kernel) (by decide +kernel)
set_option maxRecDepth 20000 in
theorem gX3_changeSet_X3_keepLongest : GoodIn wsX3_changeSet (wsV RX3 243 RX3 yX3_keepLongest wsX3_keepLongest) := goodIn_app (goodIn_of _ (by decide +kernel)) ggX3_changeSet_X3_keepLongest
set_option maxRecDepth 20000 in
theorem ggX3_changeSet_X3_fillGaps : GoodIn wsX3_changeSet wsX3_fillGaps := goodIn_r _ [89, 36, 37, 38, 39, 40, 41, 42, 43, 7, 8, 4, 9, 10, 44, 45, 46, 47, 48, 49, 50, 51, 52, 53, 84, 67, 68, 69, 90, 91, 92, 93, 85, 71, 72, 73, 76, 77, 78, 79, 80, 81, 82, 83, 6, 11, 12, 13, 14, 95, 96, 97, 98, 99, 100, 101, 102, 103, 94] (by decide +kernel) (by decide +kernel)
set_option maxRecDepth 20000 in
theorem gX3_changeSet_X3_fillGaps : GoodIn wsX3_changeSet (wsV RX3 246 RX3 yX3_fillGaps wsX3_fillGaps) := goodIn_app (goodIn_of _ (by decide +kernel)) ggX3_changeSet_X3_fillGaps
set_option maxRecDepth 20000 in
theorem ggX3_changeSet_X0_fill : GoodIn wsX3_changeSet wsX0_fill := goodIn_r _ [79, 80, 81, 82, 83, 6, 7, 8, 4, 9, 10, 11, 12, 13, 14, 94] (by decide +kernel) (by decide +kernel)
set_option maxRecDepth 20000 in
theorem gX3_changeSet_X0_fill : GoodIn wsX3_changeSet (wsV RX3 57 RX0 yX0_fill wsX0_fill) := goodIn_app (goodIn_of _ (by decide +kernel)) ggX3_changeSet_X0_fill
theorem dX3_changeSet_0 : decode cX3_changeSet 0 = .ok (.iload_n 2, 1) := by decide +kernel
theorem dX3_changeSet_1 : decode cX3_changeSet 1 = .ok (.tableswitch 94 0 6 #[43, 50, 57, 64, 71, 78, 86], 43) := by decide +kernel
theorem dX3_changeSet_44 : decode cX3_changeSet 44 = .ok (.aload_n 1, 1) := by decide +kernel
theorem dX3_changeSet_45 : decode cX3_changeSet 45 = .ok (.invokevirtual 228, 3) := by decide +kernel
theorem dX3_changeSet_48 : decode cX3_changeSet 48 = .ok (.goto 57, 3) := by decide +kernel
theorem dX3_changeSet_51 : decode cX3_changeSet 51 = .ok (.aload_n 1, 1) := by decide +kernel
theorem dX3_changeSet_52 : decode cX3_changeSet 52 = .ok (.invokevirtual 231, 3) := by decide +kernel
theorem dX3_changeSet_55 : decode cX3_changeSet 55 = .ok (.goto 50, 3) := by decide +kernel
theorem dX3_changeSet_58 : decode cX3_changeSet 58 = .ok (.aload_n 1, 1) := by decide +kernel
theorem dX3_changeSet_59 : decode cX3_changeSet 59 = .ok (.invokevirtual 234, 3) := by decide +kernel
theorem dX3_changeSet_62 : decode cX3_changeSet 62 = .ok (.goto 43, 3) := by decide +kernel
theorem dX3_changeSet_65 : decode cX3_changeSet 65 = .ok (.aload_n 1, 1) := by decide +kernel
theorem dX3_changeSet_66 : decode cX3_changeSet 66 = .ok (.invokevirtual 237, 3) := by decide +kernel
theorem dX3_changeSet_69 : decode cX3_changeSet 69 = .ok (.goto 36, 3) := by decide +kernel
theorem dX3_changeSet_72 : decode cX3_changeSet 72 = .ok (.aload_n 1, 1) := by decide +kernel
theorem dX3_changeSet_73 : decode cX3_changeSet 73 = .ok (.invokevirtual 240, 3) := by decide +kernel
theorem dX3_changeSet_76 : decode cX3_changeSet 76 = .ok (.goto 29, 3) := by decide +kernel
theorem dX3_changeSet_79 : decode cX3_changeSet 79 = .ok (.aload_n 0, 1) := by decide +kernel
theorem dX3_changeSet_80 : decode cX3_changeSet 80 = .ok (.aload_n 1, 1) := by decide +kernel
theorem dX3_changeSet_81 : decode cX3_changeSet 81 = .ok (.invokevirtual 243, 3) := by decide +kernel
theorem dX3_changeSet_84 : decode cX3_changeSet 84 = .ok (.goto 21, 3) := by decide +kernel
theorem dX3_changeSet_87 : decode cX3_changeSet 87 = .ok (.aload_n 0, 1) := by decide +kernel
theorem dX3_changeSet_88 : decode cX3_changeSet 88 = .ok (.aload_n 1, 1) := by decide +kernel
theorem dX3_changeSet_89 : decode cX3_changeSet 89 = .ok (.invokevirtual 246, 3) := by decide +kernel
theorem dX3_changeSet_92 : decode cX3_changeSet 92 = .ok (.goto 13, 3) := by decide +kernel
theorem dX3_changeSet_95 : decode cX3_changeSet 95 = .ok (.aload_n 1, 1) := by decide +kernel
theorem dX3_changeSet_96 : decode cX3_changeSet 96 = .ok (.iconst 0, 1) := by decide +kernel
theorem dX3_changeSet_97 : decode cX3_changeSet 97 = .ok (.sipush 200, 3) := by decide +kernel
theorem dX3_changeSet_100 : decode cX3_changeSet 100 = .ok (.iconst 0, 1) := by decide +kernel
theorem dX3_changeSet_101 : decode cX3_changeSet 101 = .ok (.invokevirtual 57, 3) := by decide +kernel
theorem dX3_changeSet_104 : decode cX3_changeSet 104 = .ok (.pop, 1) := by decide +kernel
theorem dX3_changeSet_105 : decode cX3_changeSet 105 = .ok (.return_, 1) := by decide +kernel
set_option maxRecDepth 20000 in
theorem ggX3_keepLongest_X1_readRuns : GoodIn wsX3_keepLongest wsX1_readRuns := goodIn_r _ [6, 7, 8, 9, 10, 11, 12, 13, 14, 15, 16, 5, 17, 18, 19, 20, 21, 22, 23, 68, 69, 70, 71] (by decide +kernel) (by decide +kernel)
set_option maxRecDepth 20000 in
theorem gX3_keepLongest_X1_readRuns : GoodIn wsX3_keepLongest (wsV RX3 108 RX1 yX1_readRuns wsX1_readRuns) := goodIn_app (goodIn_of _ (by decide +kernel)) ggX3_keepLongest_X1_readRuns
set_option maxRecDepth 20000 in
theorem ggX3_keepLongest_X1_longest : GoodIn wsX3_keepLongest wsX1_longest := goodIn_r _ [27, 7, 28, 29, 30, 5, 31, 32, 33, 34, 35, 36, 37, 38, 39, 18, 40, 41, 42, 43, 23, 44, 45, 46, 68, 69, 70] (by decide +kernel) (by decide +kernel)
set_option maxRecDepth 20000 in
theorem gX3_keepLongest_X1_longest : GoodIn wsX3_keepLongest (wsV RX3 249 RX1 yX1_longest wsX1_longest) := goodIn_app (goodIn_of _ (by decide +kernel)) ggX3_keepLongest_X1_longest
set_option maxRecDepth 20000 in
theorem ggX3_keepLongest_X0_fill : GoodIn wsX3_keepLongest wsX0_fill := goodIn_r _ [50, 51, 52, 53, 54, 55, 9, 10, 11, 12, 13, 56, 57, 58, 59, 71] (by decide +kernel) (by decide +kernel)
set_option maxRecDepth 20000 in
theorem gX3_keepLongest_X0_fill : GoodIn wsX3_keepLongest (wsV RX3 57 RX0 yX0_fill wsX0_fill) := goodIn_app (goodIn_of _ (by decide +kernel)) ggX3_keepLongest_X0_fill
set_option maxRecDepth 20000 in
theorem ggX3_keepLongest_X1_first : GoodIn wsX3_keepLongest wsX1_first := goodIn_r _ [39, 7, 18, 68, 69, 70] (by decide +kernel) (by decide +kernel)
set_option maxRecDepth 20000 in
theorem gX3_keepLongest_X1_first : GoodIn wsX3_keepLongest (wsV RX3 252 RX1 yX1_first wsX1_first) := goodIn_app (goodIn_of _ (by decide +kernel)) ggX3_keepLongest_X1_first
set_option maxRecDepth 20000 in
theorem ggX3_keepLongest_X1_last : GoodIn wsX3_keepLongest wsX1_last := goodIn_r _ [43, 7, 23, 68, 69, 70] (by decide +kernel) (by decide +kernel)
set_option maxRecDepth 20000 in
theorem gX3_keepLongest_X1_last : GoodIn wsX3_keepLongest (wsV RX3 255 RX1 yX1_last wsX1_last) := goodIn_app (goodIn_of _ (by decide +kernel)) ggX3_keepLongest_X1_last
theorem dX3_keepLongest_0 : decode cX3_keepLongest 0 = .ok (.aload_n 0, 1) := by decide +kernel
theorem dX3_keepLongest_1 : decode cX3_keepLongest 1 = .ok (.getfield 34, 3) := by decide +kernel
theorem dX3_keepLongest_4 : decode cX3_keepLongest 4 = .ok (.aload_n 1, 1) := by decide +kernel
theorem dX3_keepLongest_5 : decode cX3_keepLongest 5 = .ok (.iconst 1, 1) := by decide +kernel
theorem dX3_keepLongest_6 : decode cX3_keepLongest 6 = .ok (.invokevirtual 108, 3) := by decide +kernel
theorem dX3_keepLongest_9 : decode cX3_keepLongest 9 = .ok (.aload_n 0, 1) := by decide +kernel
theorem dX3_keepLongest_10 : decode cX3_keepLongest 10 = .ok (.getfield 34, 3) := by decide +kernel
theorem dX3_keepLongest_13 : decode cX3_keepLongest 13 = .ok (.invokevirtual 249, 3) := by decide +kernel
theorem dX3_keepLongest_16 : decode cX3_keepLongest 16 = .ok (.istore_n 2, 1) := by decide +kernel
theorem dX3_keepLongest_17 : decode cX3_keepLongest 17 = .ok (.aload_n 1, 1) := by decide +kernel
theorem dX3_keepLongest_18 : decode cX3_keepLongest 18 = .ok (.iconst 0, 1) := by decide +kernel
theorem dX3_keepLongest_19 : decode cX3_keepLongest 19 = .ok (.sipush 200, 3) := by decide +kernel
theorem dX3_keepLongest_22 : decode cX3_keepLongest 22 = .ok (.iconst 0, 1) := by decide +kernel
theorem dX3_keepLongest_23 : decode cX3_keepLongest 23 = .ok (.invokevirtual 57, 3) := by decide +kernel
theorem dX3_keepLongest_26 : decode cX3_keepLongest 26 = .ok (.pop, 1) := by decide +kernel
theorem dX3_keepLongest_27 : decode cX3_keepLongest 27 = .ok (.aload_n 1, 1) := by decide +kernel
theorem dX3_keepLongest_28 : decode cX3_keepLongest 28 = .ok (.aload_n 0, 1) := by decide +kernel
theorem dX3_keepLongest_29 : decode cX3_keepLongest 29 = .ok (.getfield 34, 3) := by decide +kernel
theorem dX3_keepLongest_32 : decode cX3_keepLongest 32 = .ok (.iload_n 2, 1) := by decide +kernel
theorem dX3_keepLongest_33 : decode cX3_keepLongest 33 = .ok (.invokevirtual 252, 3) := by decide +kernel
theorem dX3_keepLongest_36 : decode cX3_keepLongest 36 = .ok (.aload_n 0, 1) := by decide +kernel
theorem dX3_keepLongest_37 : decode cX3_keepLongest 37 = .ok (.getfield 34, 3) := by decide +kernel
theorem dX3_keepLongest_40 : decode cX3_keepLongest 40 = .ok (.iload_n 2, 1) := by decide +kernel
theorem dX3_keepLongest_41 : decode cX3_keepLongest 41 = .ok (.invokevirtual 255, 3) := by decide +kernel
theorem dX3_keepLongest_44 : decode cX3_keepLongest 44 = .ok (.iconst 1, 1) := by decide +kernel
theorem dX3_keepLongest_45 : decode cX3_keepLongest 45 = .ok (.invokevirtual 57, 3) := by decide +kernel
theorem dX3_keepLongest_48 : decode cX3_keepLongest 48 = .ok (.pop, 1) := by decide +kernel
theorem dX3_keepLongest_49 : decode cX3_keepLongest 49 = .ok (.return_, 1) := by decide +kernel
set_option maxRecDepth 20000 in
theorem ggX3_fillGaps_X1_readRuns : GoodIn wsX3_fillGaps wsX1_readRuns := goodIn_r _ [6, 7, 8, 9, 10, 11, 12, 13, 14, 15, 16, 5, 17, 18, 19, 20, 21, 22, 23, 55, 56, 57, 58] (by decide +kernel) (by decide +kernel)
set_option maxRecDepth 20000 in
theorem gX3_fillGaps_X1_readRuns : GoodIn wsX3_fillGaps (wsV RX3 108 RX1 yX1_readRuns wsX1_readRuns) := goodIn_app (goodIn_of _ (by decide +kernel)) ggX3_fillGaps_X1_readRuns
set_option maxRecDepth 20000 in
theorem ggX3_fillGaps_X1_first : GoodIn wsX3_fillGaps wsX1_first := goodIn_r _ [27, 7, 18, 55, 56, 57] (by decide +kernel) (by decide +kernel)
set_option maxRecDepth 20000 in
theorem gX3_fillGaps_X1_first : GoodIn wsX3_fillGaps (wsV RX3 252 RX1 yX1_first wsX1_first) := goodIn_app (goodIn_of _ (by decide +kernel)) ggX3_fillGaps_X1_first
set_option maxRecDepth 20000 in
theorem ggX3_fillGaps_X1_size : GoodIn wsX3_fillGaps wsX1_size := goodIn_r _ [31, 7, 55, 56, 57] (by decide +kernel) (by decide +kernel)
set_option maxRecDepth 20000 in
theorem gX3_fillGaps_X1_size : GoodIn wsX3_fillGaps (wsV RX3 112 RX1 yX1_size wsX1_size) := goodIn_app (goodIn_of _ (by decide +kernel)) ggX3_fillGaps_X1_size
set_option maxRecDepth 20000 in
theorem ggX3_fillGaps_X1_last : GoodIn wsX3_fillGaps wsX1_last := goodIn_r _ [35, 7, 23, 55, 56, 57] (by decide +kernel) (by decide +kernel)
set_option maxRecDepth 20000 in
theorem gX3_fillGaps_X1_last : GoodIn wsX3_fillGaps (wsV RX3 255 RX1 yX1_last wsX1_last) := goodIn_app (goodIn_of _ (by decide +kernel)) ggX3_fillGaps_X1_last
set_option maxRecDepth 20000 in
theorem ggX3_fillGaps_X0_fill : GoodIn wsX3_fillGaps wsX0_fill := goodIn_r _ [39, 40, 41, 42, 43, 44, 9, 10, 11, 12, 13, 45, 46, 47, 48, 58] (by decide +kernel) (by decide +kernel)
set_option maxRecDepth 20000 in
theorem gX3_fillGaps_X0_fill : GoodIn wsX3_fillGaps (wsV RX3 57 RX0 yX0_fill wsX0_fill) := goodIn_app (goodIn_of _ (by decide +kernel)) ggX3_fillGaps_X0_fill
theorem dX3_fillGaps_0 : decode cX3_fillGaps 0 = .ok (.aload_n 0, 1) := by decide +kernel
theorem dX3_fillGaps_1 : decode cX3_fillGaps 1 = .ok (.getfield 34, 3) := by decide +kernel
theorem dX3_fillGaps_4 : decode cX3_fillGaps 4 = .ok (.aload_n 1, 1) := by decide +kernel
theorem dX3_fillGaps_5 : decode cX3_fillGaps 5 = .ok (.iconst 1, 1) := by decide +kernel
theorem dX3_fillGaps_6 : decode cX3_fillGaps 6 = .ok (.invokevirtual 108, 3) := by decide +kernel
theorem dX3_fillGaps_9 : decode cX3_fillGaps 9 = .ok (.aload_n 1, 1) := by decide +kernel
theorem dX3_fillGaps_10 : decode cX3_fillGaps 10 = .ok (.aload_n 0, 1) := by decide +kernel
theorem dX3_fillGaps_11 : decode cX3_fillGaps 11 = .ok (.getfield 34, 3) := by decide +kernel
theorem dX3_fillGaps_14 : decode cX3_fillGaps 14 = .ok (.iconst 0, 1) := by decide +kernel
theorem dX3_fillGaps_15 : decode cX3_fillGaps 15 = .ok (.invokevirtual 252, 3) := by decide +kernel
theorem dX3_fillGaps_18 : decode cX3_fillGaps 18 = .ok (.aload_n 0, 1) := by decide +kernel
theorem dX3_fillGaps_19 : decode cX3_fillGaps 19 = .ok (.getfield 34, 3) := by decide +kernel
theorem dX3_fillGaps_22 : decode cX3_fillGaps 22 = .ok (.aload_n 0, 1) := by decide +kernel
theorem dX3_fillGaps_23 : decode cX3_fillGaps 23 = .ok (.getfield 34, 3) := by decide +kernel
theorem dX3_fillGaps_26 : decode cX3_fillGaps 26 = .ok (.invokevirtual 112, 3) := by decide +kernel
theorem dX3_fillGaps_29 : decode cX3_fillGaps 29 = .ok (.iconst 1, 1) := by decide +kernel
theorem dX3_fillGaps_30 : decode cX3_fillGaps 30 = .ok (.isub, 1) := by decide +kernel
theorem dX3_fillGaps_31 : decode cX3_fillGaps 31 = .ok (.invokevirtual 255, 3) := by decide +kernel
theorem dX3_fillGaps_34 : decode cX3_fillGaps 34 = .ok (.iconst 1, 1) := by decide +kernel
theorem dX3_fillGaps_35 : decode cX3_fillGaps 35 = .ok (.invokevirtual 57, 3) := by decide +kernel
theorem dX3_fillGaps_38 : decode cX3_fillGaps 38 = .ok (.pop, 1) := by decide +kernel
theorem dX3_fillGaps_39 : decode cX3_fillGaps 39 = .ok (.return_, 1) := by decide +kernel
set_option maxRecDepth 20000 in
theorem ggX3_putStretched_X3_isPoint : GoodIn wsX3_putStretched wsX3_isPoint := goodIn_r _ [4] (by decide +kernel) (by decide +kernel)
set_option maxRecDepth 20000 in
theorem gX3_putStretched_X3_isPoint : GoodIn wsX3_putStretched (va_wsS RX3 258 yX3_isPoint wsX3_isPoint) := goodIn_app (goodIn_of _ (by decide +kernel)) ggX3_putStretched_X3_isPoint
set_option maxRecDepth 20000 in
theorem ggX3_putStretched_X0_write : GoodIn wsX3_putStretched wsX0_write := goodIn_r _ [9, 10, 24] (by decide +kernel) (by decide +kernel)
set_option maxRecDepth 20000 in
theorem gX3_putStretched_X0_write : GoodIn wsX3_putStretched (wsV RX3 73 RX0 yX0_write wsX0_write) := goodIn_app (goodIn_of _ (by decide +kernel)) ggX3_putStretched_X0_write
set_option maxRecDepth 20000 in
theorem ggX3_putStretched_X0_fill : GoodIn wsX3_putStretched wsX0_fill := goodIn_r _ [14, 15, 16, 17, 18, 19, 20, 21, 8, 22, 10, 23, 6, 7, 9, 24] (by decide +kernel) (by decide +kernel)
set_option maxRecDepth 20000 in
theorem gX3_putStretched_X0_fill : GoodIn wsX3_putStretched (wsV RX3 57 RX0 yX0_fill wsX0_fill) := goodIn_app (goodIn_of _ (by decide +kernel)) ggX3_putStretched_X0_fill
theorem dX3_putStretched_0 : decode cX3_putStretched 0 = .ok (.iload_n 1, 1) := by decide +kernel
theorem dX3_putStretched_1 : decode cX3_putStretched 1 = .ok (.invokestatic 258, 3) := by decide +kernel
theorem dX3_putStretched_4 : decode cX3_putStretched 4 = .ok (.ifCond .eq 14, 3) := by decide +kernel
theorem dX3_putStretched_7 : decode cX3_putStretched 7 = .ok (.aload_n 0, 1) := by decide +kernel
theorem dX3_putStretched_8 : decode cX3_putStretched 8 = .ok (.iload_n 1, 1) := by decide +kernel
theorem dX3_putStretched_9 : decode cX3_putStretched 9 = .ok (.iload_n 2, 1) := by decide +kernel
theorem dX3_putStretched_10 : decode cX3_putStretched 10 = .ok (.imul, 1) := by decide +kernel
theorem dX3_putStretched_11 : decode cX3_putStretched 11 = .ok (.iconst 1, 1) := by decide +kernel
theorem dX3_putStretched_12 : decode cX3_putStretched 12 = .ok (.invokevirtual 73, 3) := by decide +kernel
theorem dX3_putStretched_15 : decode cX3_putStretched 15 = .ok (.goto 23, 3) := by decide +kernel
theorem dX3_putStretched_18 : decode cX3_putStretched 18 = .ok (.aload_n 0, 1) := by decide +kernel
theorem dX3_putStretched_19 : decode cX3_putStretched 19 = .ok (.iload_n 1, 1) := by decide +kernel
theorem dX3_putStretched_20 : decode cX3_putStretched 20 = .ok (.iconst 1, 1) := by decide +kernel
theorem dX3_putStretched_21 : decode cX3_putStretched 21 = .ok (.isub, 1) := by decide +kernel
theorem dX3_putStretched_22 : decode cX3_putStretched 22 = .ok (.iload_n 2, 1) := by decide +kernel
theorem dX3_putStretched_23 : decode cX3_putStretched 23 = .ok (.imul, 1) := by decide +kernel
theorem dX3_putStretched_24 : decode cX3_putStretched 24 = .ok (.iconst 1, 1) := by decide +kernel
theorem dX3_putStretched_25 : decode cX3_putStretched 25 = .ok (.iadd, 1) := by decide +kernel
theorem dX3_putStretched_26 : decode cX3_putStretched 26 = .ok (.iload_n 1, 1) := by decide +kernel
theorem dX3_putStretched_27 : decode cX3_putStretched 27 = .ok (.iconst 1, 1) := by decide +kernel
theorem dX3_putStretched_28 : decode cX3_putStretched 28 = .ok (.iadd, 1) := by decide +kernel
theorem dX3_putStretched_29 : decode cX3_putStretched 29 = .ok (.iload_n 2, 1) := by decide +kernel
theorem dX3_putStretched_30 : decode cX3_putStretched 30 = .ok (.imul, 1) := by decide +kernel
theorem dX3_putStretched_31 : decode cX3_putStretched 31 = .ok (.iconst 1, 1) := by decide +kernel
theorem dX3_putStretched_32 : decode cX3_putStretched 32 = .ok (.isub, 1) := by decide +kernel
theorem dX3_putStretched_33 : decode cX3_putStretched 33 = .ok (.iconst 1, 1) := by decide +kernel
theorem dX3_putStretched_34 : decode cX3_putStretched 34 = .ok (.invokevirtual 57, 3) := by decide +kernel
theorem dX3_putStretched_37 : decode cX3_putStretched 37 = .ok (.pop, 1) := by decide +kernel
theorem dX3_putStretched_38 : decode cX3_putStretched 38 = .ok (.return_, 1) := by decide +kernel
set_option maxRecDepth 20000 in
theorem ggX3_factOfSet_X0_count : GoodIn wsX3_factOfSet wsX0_count := goodIn_r _ [6, 7, 8, 9, 5, 10, 11, 71] (by decide +kernel) (by decide +kernel)
set_option maxRecDepth 20000 in
theorem gX3_factOfSet_X0_count : GoodIn wsX3_factOfSet (wsV RX3 77 RX0 yX0_count wsX0_count) := goodIn_app (goodIn_of _ (by decide +kernel)) ggX3_factOfSet_X0_count
set_option maxRecDepth 20000 in
theorem ggX3_factOfSet_X1_readRuns : GoodIn wsX3_factOfSet wsX1_readRuns := goodIn_r _ [16, 17, 18, 8, 9, 5, 10, 11, 19, 20, 21, 15, 22, 23, 24, 25, 26, 27, 28, 72, 73, 74, 71] (by decide +kernel) (by decide +kernel)
set_option maxRecDepth 20000 in
theorem gX3_factOfSet_X1_readRuns : GoodIn wsX3_factOfSet (wsV RX3 108 RX1 yX1_readRuns wsX1_readRuns) := goodIn_app (goodIn_of _ (by decide +kernel)) ggX3_factOfSet_X1_readRuns
set_option maxRecDepth 20000 in
theorem ggX3_factOfSet_X1_size : GoodIn wsX3_factOfSet wsX1_size := goodIn_r _ [32, 17, 72, 73, 74] (by decide +kernel) (by decide +kernel)
set_option maxRecDepth 20000 in
theorem gX3_factOfSet_X1_size : GoodIn wsX3_factOfSet (wsV RX3 112 RX1 yX1_size wsX1_size) := goodIn_app (goodIn_of _ (by decide +kernel)) ggX3_factOfSet_X1_size
set_option maxRecDepth 20000 in
theorem ggX3_factOfSet_X0_length : GoodIn wsX3_factOfSet wsX0_length := goodIn_r _ [36, 7, 8, 9, 5, 10, 11, 71] (by decide +kernel) (by decide +kernel)
set_option maxRecDepth 20000 in
theorem gX3_factOfSet_X0_length : GoodIn wsX3_factOfSet (wsV RX3 175 RX0 yX0_length wsX0_length) := goodIn_app (goodIn_of _ (by decide +kernel)) ggX3_factOfSet_X0_length
set_option maxRecDepth 20000 in
theorem ggX3_factOfSet_X1_lonePoints : GoodIn wsX3_factOfSet wsX1_lonePoints := goodIn_r _ [40, 17, 41, 42, 43, 15, 44, 45, 46, 47, 48, 49, 50, 51, 52, 23, 53, 54, 55, 56, 28, 57, 58, 59, 72, 73, 74] (by decide +kernel) (by decide +kernel)
set_option maxRecDepth 20000 in
theorem gX3_factOfSet_X1_lonePoints : GoodIn wsX3_factOfSet (wsV RX3 261 RX1 yX1_lonePoints wsX1_lonePoints) := goodIn_app (goodIn_of _ (by decide +kernel)) ggX3_factOfSet_X1_lonePoints
set_option maxRecDepth 20000 in
theorem ggX3_factOfSet_X1_longest : GoodIn wsX3_factOfSet wsX1_longest := goodIn_r _ [63, 17, 41, 42, 43, 15, 44, 45, 46, 47, 48, 49, 50, 51, 52, 23, 53, 54, 55, 56, 28, 57, 58, 59, 72, 73, 74] (by decide +kernel) (by decide +kernel)
set_option maxRecDepth 20000 in
theorem gX3_factOfSet_X1_longest : GoodIn wsX3_factOfSet (wsV RX3 249 RX1 yX1_longest wsX1_longest) := goodIn_app (goodIn_of _ (by decide +kernel)) ggX3_factOfSet_X1_longest
set_option maxRecDepth 20000 in
theorem ggX3_factOfSet_X1_length : GoodIn wsX3_factOfSet wsX1_length := goodIn_r _ [44, 45, 46, 47, 15, 48, 49, 50, 51, 52, 17, 23, 53, 54, 55, 56, 28, 57, 58, 59, 72, 73, 74] (by decide +kernel) (by decide +kernel)
set_option maxRecDepth 20000 in
theorem gX3_factOfSet_X1_length : GoodIn wsX3_factOfSet (wsV RX3 264 RX1 yX1_length wsX1_length) := goodIn_app (goodIn_of _ (by decide +kernel)) ggX3_factOfSet_X1_length
theorem dX3_factOfSet_0 : decode cX3_factOfSet 0 = .ok (.iload_n 2, 1) := by decide +kernel
theorem dX3_factOfSet_1 : decode cX3_factOfSet 1 = .ok (.tableswitch 96 0 4 #[35, 40, 57, 62, 79], 35) := by decide +kernel
theorem dX3_factOfSet_36 : decode cX3_factOfSet 36 = .ok (.aload_n 1, 1) := by decide +kernel
theorem dX3_factOfSet_37 : decode cX3_factOfSet 37 = .ok (.invokevirtual 77, 3) := by decide +kernel
theorem dX3_factOfSet_40 : decode cX3_factOfSet 40 = .ok (.ireturn, 1) := by decide +kernel
theorem dX3_factOfSet_41 : decode cX3_factOfSet 41 = .ok (.aload_n 0, 1) := by decide +kernel
theorem dX3_factOfSet_42 : decode cX3_factOfSet 42 = .ok (.getfield 34, 3) := by decide +kernel
theorem dX3_factOfSet_45 : decode cX3_factOfSet 45 = .ok (.aload_n 1, 1) := by decide +kernel
theorem dX3_factOfSet_46 : decode cX3_factOfSet 46 = .ok (.iconst 1, 1) := by decide +kernel
theorem dX3_factOfSet_47 : decode cX3_factOfSet 47 = .ok (.invokevirtual 108, 3) := by decide +kernel
theorem dX3_factOfSet_50 : decode cX3_factOfSet 50 = .ok (.aload_n 0, 1) := by decide +kernel
theorem dX3_factOfSet_51 : decode cX3_factOfSet 51 = .ok (.getfield 34, 3) := by decide +kernel
theorem dX3_factOfSet_54 : decode cX3_factOfSet 54 = .ok (.invokevirtual 112, 3) := by decide +kernel
theorem dX3_factOfSet_57 : decode cX3_factOfSet 57 = .ok (.ireturn, 1) := by decide +kernel
theorem dX3_factOfSet_58 : decode cX3_factOfSet 58 = .ok (.aload_n 1, 1) := by decide +kernel
theorem dX3_factOfSet_59 : decode cX3_factOfSet 59 = .ok (.invokevirtual 175, 3) := by decide +kernel
theorem dX3_factOfSet_62 : decode cX3_factOfSet 62 = .ok (.ireturn, 1) := by decide +kernel
theorem dX3_factOfSet_63 : decode cX3_factOfSet 63 = .ok (.aload_n 0, 1) := by decide +kernel
theorem dX3_factOfSet_64 : decode cX3_factOfSet 64 = .ok (.getfield 34, 3) := by decide +kernel
theorem dX3_factOfSet_67 : decode cX3_factOfSet 67 = .ok (.aload_n 1, 1) := by decide +kernel
theorem dX3_factOfSet_68 : decode cX3_factOfSet 68 = .ok (.iconst 1, 1) := by decide +kernel
theorem dX3_factOfSet_69 : decode cX3_factOfSet 69 = .ok (.invokevirtual 108, 3) := by decide +kernel
theorem dX3_factOfSet_72 : decode cX3_factOfSet 72 = .ok (.aload_n 0, 1) := by decide +kernel
theorem dX3_factOfSet_73 : decode cX3_factOfSet 73 = .ok (.getfield 34, 3) := by decide +kernel
theorem dX3_factOfSet_76 : decode cX3_factOfSet 76 = .ok (.invokevirtual 261, 3) := by decide +kernel
theorem dX3_factOfSet_79 : decode cX3_factOfSet 79 = .ok (.ireturn, 1) := by decide +kernel
theorem dX3_factOfSet_80 : decode cX3_factOfSet 80 = .ok (.aload_n 0, 1) := by decide +kernel
theorem dX3_factOfSet_81 : decode cX3_factOfSet 81 = .ok (.getfield 34, 3) := by decide +kernel
theorem dX3_factOfSet_84 : decode cX3_factOfSet 84 = .ok (.aload_n 1, 1) := by decide +kernel
theorem dX3_factOfSet_85 : decode cX3_factOfSet 85 = .ok (.iconst 0, 1) := by decide +kernel
theorem dX3_factOfSet_86 : decode cX3_factOfSet 86 = .ok (.invokevirtual 108, 3) := by decide +kernel
theorem dX3_factOfSet_89 : decode cX3_factOfSet 89 = .ok (.aload_n 0, 1) := by decide +kernel
theorem dX3_factOfSet_90 : decode cX3_factOfSet 90 = .ok (.getfield 34, 3) := by decide +kernel
theorem dX3_factOfSet_93 : decode cX3_factOfSet 93 = .ok (.invokevirtual 112, 3) := by decide +kernel
theorem dX3_factOfSet_96 : decode cX3_factOfSet 96 = .ok (.ireturn, 1) := by decide +kernel
theorem dX3_factOfSet_97 : decode cX3_factOfSet 97 = .ok (.aload_n 0, 1) := by decide +kernel
theorem dX3_factOfSet_98 : decode cX3_factOfSet 98 = .ok (.getfield 34, 3) := by decide +kernel
theorem dX3_factOfSet_101 : decode cX3_factOfSet 101 = .ok (.aload_n 1, 1) := by decide +kernel
theorem dX3_factOfSet_102 : decode cX3_factOfSet 102 = .ok (.iconst 0, 1) := by decide +kernel
theorem dX3_factOfSet_103 : decode cX3_factOfSet 103 = .ok (.invokevirtual 108, 3) := by decide +kernel
theorem dX3_factOfSet_106 : decode cX3_factOfSet 106 = .ok (.aload_n 0, 1) := by decide +kernel
theorem dX3_factOfSet_107 : decode cX3_factOfSet 107 = .ok (.getfield 34, 3) := by decide +kernel
theorem dX3_factOfSet_110 : decode cX3_factOfSet 110 = .ok (.aload_n 0, 1) := by decide +kernel
theorem dX3_factOfSet_111 : decode cX3_factOfSet 111 = .ok (.getfield 34, 3) := by decide +kernel
theorem dX3_factOfSet_114 : decode cX3_factOfSet 114 = .ok (.invokevirtual 249, 3) := by decide +kernel
theorem dX3_factOfSet_117 : decode cX3_factOfSet 117 = .ok (.invokevirtual 264, 3) := by decide +kernel
theorem dX3_factOfSet_120 : decode cX3_factOfSet 120 = .ok (.ireturn, 1) := by decide +kernel
set_option maxRecDepth 20000 in
theorem ggX3_canLie_X0_holds : GoodIn wsX3_canLie wsX0_holds := goodIn_r _ [5, 6, 7] (by decide +kernel) (by decide +kernel)
set_option maxRecDepth 20000 in
theorem gX3_canLie_X0_holds : GoodIn wsX3_canLie (wsV RX3 65 RX0 yX0_holds wsX0_holds) := goodIn_app (goodIn_of _ (by decide +kernel)) ggX3_canLie_X0_holds
theorem dX3_canLie_0 : decode cX3_canLie 0 = .ok (.iconst 0, 1) := by decide +kernel
theorem dX3_canLie_1 : decode cX3_canLie 1 = .ok (.istore_n 3, 1) := by decide +kernel
theorem dX3_canLie_2 : decode cX3_canLie 2 = .ok (.iload_n 3, 1) := by decide +kernel
theorem dX3_canLie_3 : decode cX3_canLie 3 = .ok (.sipush 201, 3) := by decide +kernel
theorem dX3_canLie_6 : decode cX3_canLie 6 = .ok (.if_icmp .ge 48, 3) := by decide +kernel
theorem dX3_canLie_9 : decode cX3_canLie 9 = .ok (.aload_n 0, 1) := by decide +kernel
theorem dX3_canLie_10 : decode cX3_canLie 10 = .ok (.iload_n 3, 1) := by decide +kernel
theorem dX3_canLie_11 : decode cX3_canLie 11 = .ok (.invokevirtual 65, 3) := by decide +kernel
theorem dX3_canLie_14 : decode cX3_canLie 14 = .ok (.ifCond .eq 34, 3) := by decide +kernel
theorem dX3_canLie_17 : decode cX3_canLie 17 = .ok (.iload_n 3, 1) := by decide +kernel
theorem dX3_canLie_18 : decode cX3_canLie 18 = .ok (.iconst 2, 1) := by decide +kernel
theorem dX3_canLie_19 : decode cX3_canLie 19 = .ok (.iload_n 1, 1) := by decide +kernel
theorem dX3_canLie_20 : decode cX3_canLie 20 = .ok (.imul, 1) := by decide +kernel
theorem dX3_canLie_21 : decode cX3_canLie 21 = .ok (.iadd, 1) := by decide +kernel
theorem dX3_canLie_22 : decode cX3_canLie 22 = .ok (.istore 4, 2) := by decide +kernel
theorem dX3_canLie_24 : decode cX3_canLie 24 = .ok (.iload 4, 2) := by decide +kernel
theorem dX3_canLie_26 : decode cX3_canLie 26 = .ok (.ifCond .lt 20, 3) := by decide +kernel
theorem dX3_canLie_29 : decode cX3_canLie 29 = .ok (.iload 4, 2) := by decide +kernel
theorem dX3_canLie_31 : decode cX3_canLie 31 = .ok (.sipush 201, 3) := by decide +kernel
theorem dX3_canLie_34 : decode cX3_canLie 34 = .ok (.if_icmp .ge 12, 3) := by decide +kernel
theorem dX3_canLie_37 : decode cX3_canLie 37 = .ok (.aload_n 2, 1) := by decide +kernel
theorem dX3_canLie_38 : decode cX3_canLie 38 = .ok (.iload 4, 2) := by decide +kernel
theorem dX3_canLie_40 : decode cX3_canLie 40 = .ok (.invokevirtual 65, 3) := by decide +kernel
theorem dX3_canLie_43 : decode cX3_canLie 43 = .ok (.ifCond .eq 5, 3) := by decide +kernel
theorem dX3_canLie_46 : decode cX3_canLie 46 = .ok (.iconst 0, 1) := by decide +kernel
theorem dX3_canLie_47 : decode cX3_canLie 47 = .ok (.ireturn, 1) := by decide +kernel
theorem dX3_canLie_48 : decode cX3_canLie 48 = .ok (.iinc 3 1, 3) := by decide +kernel
theorem dX3_canLie_51 : decode cX3_canLie 51 = .ok (.goto (-49), 3) := by decide +kernel
theorem dX3_canLie_54 : decode cX3_canLie 54 = .ok (.iconst 1, 1) := by decide +kernel
theorem dX3_canLie_55 : decode cX3_canLie 55 = .ok (.ireturn, 1) := by decide +kernel
theorem dX3_mixed_0 : decode cX3_mixed 0 = .ok (.iload_n 2, 1) := by decide +kernel
theorem dX3_mixed_1 : decode cX3_mixed 1 = .ok (.tableswitch 51 0 3 #[31, 35, 41, 47], 31) := by decide +kernel
theorem dX3_mixed_32 : decode cX3_mixed 32 = .ok (.iload_n 0, 1) := by decide +kernel
theorem dX3_mixed_33 : decode cX3_mixed 33 = .ok (.iload_n 1, 1) := by decide +kernel
theorem dX3_mixed_34 : decode cX3_mixed 34 = .ok (.iadd, 1) := by decide +kernel
theorem dX3_mixed_35 : decode cX3_mixed 35 = .ok (.ireturn, 1) := by decide +kernel
theorem dX3_mixed_36 : decode cX3_mixed 36 = .ok (.iload_n 0, 1) := by decide +kernel
theorem dX3_mixed_37 : decode cX3_mixed 37 = .ok (.iload_n 1, 1) := by decide +kernel
theorem dX3_mixed_38 : decode cX3_mixed 38 = .ok (.invokestatic 266, 3) := by decide +kernel
theorem dX3_mixed_41 : decode cX3_mixed 41 = .ok (.ireturn, 1) := by decide +kernel
theorem dX3_mixed_42 : decode cX3_mixed 42 = .ok (.iload_n 0, 1) := by decide +kernel
theorem dX3_mixed_43 : decode cX3_mixed 43 = .ok (.iload_n 1, 1) := by decide +kernel
theorem dX3_mixed_44 : decode cX3_mixed 44 = .ok (.invokestatic 271, 3) := by decide +kernel
theorem dX3_mixed_47 : decode cX3_mixed 47 = .ok (.ireturn, 1) := by decide +kernel
theorem dX3_mixed_48 : decode cX3_mixed 48 = .ok (.iload_n 0, 1) := by decide +kernel
theorem dX3_mixed_49 : decode cX3_mixed 49 = .ok (.iload_n 1, 1) := by decide +kernel
theorem dX3_mixed_50 : decode cX3_mixed 50 = .ok (.isub, 1) := by decide +kernel
theorem dX3_mixed_51 : decode cX3_mixed 51 = .ok (.ireturn, 1) := by decide +kernel
theorem dX3_mixed_52 : decode cX3_mixed 52 = .ok (.iload_n 0, 1) := by decide +kernel
theorem dX3_mixed_53 : decode cX3_mixed 53 = .ok (.iload_n 1, 1) := by decide +kernel
theorem dX3_mixed_54 : decode cX3_mixed 54 = .ok (.imul, 1) := by decide +kernel
theorem dX3_mixed_55 : decode cX3_mixed 55 = .ok (.bipush 100, 2) := by decide +kernel
theorem dX3_mixed_57 : decode cX3_mixed 57 = .ok (.idiv, 1) := by decide +kernel
theorem dX3_mixed_58 : decode cX3_mixed 58 = .ok (.ireturn, 1) := by decide +kernel
set_option maxRecDepth 20000 in
theorem ggX3_turnFunction_X2_copyFrom : GoodIn wsX3_turnFunction wsX2_copyFrom := goodIn_r _ [6, 7, 8, 9, 5, 10, 11, 12, 13, 14, 15, 16, 17, 18, 19, 20, 21, 22, 68] (by decide +kernel) (by decide +kernel)
set_option maxRecDepth 20000 in
theorem gX3_turnFunction_X2_copyFrom : GoodIn wsX3_turnFunction (wsV RX3 274 RX2 yX2_copyFrom wsX2_copyFrom) := goodIn_app (goodIn_of _ (by decide +kernel)) ggX3_turnFunction_X2_copyFrom
set_option maxRecDepth 20000 in
theorem ggX3_turnFunction_X2_negate : GoodIn wsX3_turnFunction wsX2_negate := goodIn_r _ [26, 7, 8, 9, 5, 10, 11, 12, 13, 14, 15, 16, 17, 18, 19, 20, 21, 22, 68] (by decide +kernel) (by decide +kernel)
set_option maxRecDepth 20000 in
theorem gX3_turnFunction_X2_negate : GoodIn wsX3_turnFunction (wsV RX3 277 RX2 yX2_negate wsX2_negate) := goodIn_app (goodIn_of _ (by decide +kernel)) ggX3_turnFunction_X2_negate
set_option maxRecDepth 20000 in
theorem ggX3_turnFunction_X2_climbFromLeft : GoodIn wsX3_turnFunction wsX2_climbFromLeft := goodIn_r _ [30, 20, 21, 18, 22, 7, 8, 9, 5, 10, 11, 12, 13, 14, 15, 16, 17, 19, 68] (by decide +kernel) (by decide +kernel)
set_option maxRecDepth 20000 in
theorem gX3_turnFunction_X2_climbFromLeft : GoodIn wsX3_turnFunction (wsV RX3 280 RX2 yX2_climbFromLeft wsX2_climbFromLeft) := goodIn_app (goodIn_of _ (by decide +kernel)) ggX3_turnFunction_X2_climbFromLeft
set_option maxRecDepth 20000 in
theorem ggX3_turnFunction_X2_climbFromRight : GoodIn wsX3_turnFunction wsX2_climbFromRight := goodIn_r _ [34, 20, 21, 18, 22, 7, 8, 9, 5, 10, 11, 12, 13, 14, 15, 16, 17, 19, 68] (by decide +kernel) (by decide +kernel)
set_option maxRecDepth 20000 in
theorem gX3_turnFunction_X2_climbFromRight : GoodIn wsX3_turnFunction (wsV RX3 283 RX2 yX2_climbFromRight wsX2_climbFromRight) := goodIn_app (goodIn_of _ (by decide +kernel)) ggX3_turnFunction_X2_climbFromRight
set_option maxRecDepth 20000 in
theorem ggX3_turnFunction_X2_addUp : GoodIn wsX3_turnFunction wsX2_addUp := goodIn_r _ [38, 39, 40, 41, 7, 8, 9, 5, 10, 11, 12, 13, 14, 15, 16, 17, 18, 19, 20, 21, 22, 68] (by decide +kernel) (by decide +kernel)
set_option maxRecDepth 20000 in
theorem gX3_turnFunction_X2_addUp : GoodIn wsX3_turnFunction (wsV RX3 286 RX2 yX2_addUp wsX2_addUp) := goodIn_app (goodIn_of _ (by decide +kernel)) ggX3_turnFunction_X2_addUp
set_option maxRecDepth 20000 in
theorem ggX3_turnFunction_X2_mirrorOf : GoodIn wsX3_turnFunction wsX2_mirrorOf := goodIn_r _ [45, 7, 8, 9, 5, 10, 11, 12, 13, 14, 15, 16, 17, 18, 19, 20, 21, 22, 68] (by decide +kernel) (by decide +kernel)
set_option maxRecDepth 20000 in
theorem gX3_turnFunction_X2_mirrorOf : GoodIn wsX3_turnFunction (wsV RX3 289 RX2 yX2_mirrorOf wsX2_mirrorOf) := goodIn_app (goodIn_of _ (by decide +kernel)) ggX3_turnFunction_X2_mirrorOf
set_option maxRecDepth 20000 in
theorem ggX3_turnFunction_X2_greatestNear : GoodIn wsX3_turnFunction wsX2_greatestNear := goodIn_r _ [49, 50, 51, 52, 5, 53, 20, 21, 18, 22, 7, 8, 9, 10, 11, 12, 13, 14, 15, 16, 17, 19, 68] (by decide +kernel) (by decide +kernel)
set_option maxRecDepth 20000 in
theorem gX3_turnFunction_X2_greatestNear : GoodIn wsX3_turnFunction (wsV RX3 292 RX2 yX2_greatestNear wsX2_greatestNear) := goodIn_app (goodIn_of _ (by decide +kernel)) ggX3_turnFunction_X2_greatestNear
set_option maxRecDepth 20000 in
theorem ggX3_turnFunction_X2_leastNear : GoodIn wsX3_turnFunction wsX2_leastNear := goodIn_r _ [57, 58, 59, 60, 5, 61, 20, 21, 18, 22, 16, 17, 19, 7, 8, 9, 10, 11, 12, 13, 14, 15, 68] (by decide +kernel) (by decide +kernel)
set_option maxRecDepth 20000 in
theorem gX3_turnFunction_X2_leastNear : GoodIn wsX3_turnFunction (wsV RX3 296 RX2 yX2_leastNear wsX2_leastNear) := goodIn_app (goodIn_of _ (by decide +kernel)) ggX3_turnFunction_X2_leastNear
theorem dX3_turnFunction_0 : decode cX3_turnFunction 0 = .ok (.aload_n 0, 1) := by decide +kernel
theorem dX3_turnFunction_1 : decode cX3_turnFunction 1 = .ok (.getfield 27, 3) := by decide +kernel
theorem dX3_turnFunction_4 : decode cX3_turnFunction 4 = .ok (.aload_n 1, 1) := by decide +kernel
theorem dX3_turnFunction_5 : decode cX3_turnFunction 5 = .ok (.invokevirtual 274, 3) := by decide +kernel
theorem dX3_turnFunction_8 : decode cX3_turnFunction 8 = .ok (.iload_n 2, 1) := by decide +kernel
theorem dX3_turnFunction_9 : decode cX3_turnFunction 9 = .ok (.tableswitch 90 0 5 #[39, 46, 53, 60, 67, 78], 39) := by decide +kernel
theorem dX3_turnFunction_48 : decode cX3_turnFunction 48 = .ok (.aload_n 1, 1) := by decide +kernel
theorem dX3_turnFunction_49 : decode cX3_turnFunction 49 = .ok (.invokevirtual 277, 3) := by decide +kernel
theorem dX3_turnFunction_52 : decode cX3_turnFunction 52 = .ok (.goto 56, 3) := by decide +kernel
theorem dX3_turnFunction_55 : decode cX3_turnFunction 55 = .ok (.aload_n 1, 1) := by decide +kernel
theorem dX3_turnFunction_56 : decode cX3_turnFunction 56 = .ok (.invokevirtual 280, 3) := by decide +kernel
theorem dX3_turnFunction_59 : decode cX3_turnFunction 59 = .ok (.goto 49, 3) := by decide +kernel
theorem dX3_turnFunction_62 : decode cX3_turnFunction 62 = .ok (.aload_n 1, 1) := by decide +kernel
theorem dX3_turnFunction_63 : decode cX3_turnFunction 63 = .ok (.invokevirtual 283, 3) := by decide +kernel
theorem dX3_turnFunction_66 : decode cX3_turnFunction 66 = .ok (.goto 42, 3) := by decide +kernel
theorem dX3_turnFunction_69 : decode cX3_turnFunction 69 = .ok (.aload_n 1, 1) := by decide +kernel
theorem dX3_turnFunction_70 : decode cX3_turnFunction 70 = .ok (.invokevirtual 286, 3) := by decide +kernel
theorem dX3_turnFunction_73 : decode cX3_turnFunction 73 = .ok (.goto 35, 3) := by decide +kernel
theorem dX3_turnFunction_76 : decode cX3_turnFunction 76 = .ok (.aload_n 1, 1) := by decide +kernel
theorem dX3_turnFunction_77 : decode cX3_turnFunction 77 = .ok (.aload_n 0, 1) := by decide +kernel
theorem dX3_turnFunction_78 : decode cX3_turnFunction 78 = .ok (.getfield 27, 3) := by decide +kernel
theorem dX3_turnFunction_81 : decode cX3_turnFunction 81 = .ok (.invokevirtual 289, 3) := by decide +kernel
theorem dX3_turnFunction_84 : decode cX3_turnFunction 84 = .ok (.goto 24, 3) := by decide +kernel
theorem dX3_turnFunction_87 : decode cX3_turnFunction 87 = .ok (.aload_n 1, 1) := by decide +kernel
theorem dX3_turnFunction_88 : decode cX3_turnFunction 88 = .ok (.aload_n 0, 1) := by decide +kernel
theorem dX3_turnFunction_89 : decode cX3_turnFunction 89 = .ok (.getfield 27, 3) := by decide +kernel
theorem dX3_turnFunction_92 : decode cX3_turnFunction 92 = .ok (.iload_n 3, 1) := by decide +kernel
theorem dX3_turnFunction_93 : decode cX3_turnFunction 93 = .ok (.invokevirtual 292, 3) := by decide +kernel
theorem dX3_turnFunction_96 : decode cX3_turnFunction 96 = .ok (.goto 12, 3) := by decide +kernel
theorem dX3_turnFunction_99 : decode cX3_turnFunction 99 = .ok (.aload_n 1, 1) := by decide +kernel
theorem dX3_turnFunction_100 : decode cX3_turnFunction 100 = .ok (.aload_n 0, 1) := by decide +kernel
theorem dX3_turnFunction_101 : decode cX3_turnFunction 101 = .ok (.getfield 27, 3) := by decide +kernel
theorem dX3_turnFunction_104 : decode cX3_turnFunction 104 = .ok (.iload_n 3, 1) := by decide +kernel
theorem dX3_turnFunction_105 : decode cX3_turnFunction 105 = .ok (.invokevirtual 296, 3) := by decide +kernel
theorem dX3_turnFunction_108 : decode cX3_turnFunction 108 = .ok (.return_, 1) := by decide +kernel
set_option maxRecDepth 20000 in
theorem ggX3_factOfFunction_X2_steps : GoodIn wsX3_factOfFunction wsX2_steps := goodIn_r _ [5, 6, 7, 8, 4, 9, 10, 35] (by decide +kernel) (by decide +kernel)
set_option maxRecDepth 20000 in
theorem gX3_factOfFunction_X2_steps : GoodIn wsX3_factOfFunction (wsV RX3 147 RX2 yX2_steps wsX2_steps) := goodIn_app (goodIn_of _ (by decide +kernel)) ggX3_factOfFunction_X2_steps
set_option maxRecDepth 20000 in
theorem ggX3_factOfFunction_X2_least : GoodIn wsX3_factOfFunction wsX2_least := goodIn_r _ [14, 15, 16, 17, 18, 19, 20, 21, 6, 7, 8, 4, 9, 10, 35] (by decide +kernel) (by decide +kernel)
set_option maxRecDepth 20000 in
theorem gX3_factOfFunction_X2_least : GoodIn wsX3_factOfFunction (wsV RX3 299 RX2 yX2_least wsX2_least) := goodIn_app (goodIn_of _ (by decide +kernel)) ggX3_factOfFunction_X2_least
set_option maxRecDepth 20000 in
theorem ggX3_factOfFunction_X2_greatest : GoodIn wsX3_factOfFunction wsX2_greatest := goodIn_r _ [25, 15, 16, 17, 18, 6, 7, 8, 4, 9, 10, 35] (by decide +kernel) (by decide +kernel)
set_option maxRecDepth 20000 in
theorem gX3_factOfFunction_X2_greatest : GoodIn wsX3_factOfFunction (wsV RX3 302 RX2 yX2_greatest wsX2_greatest) := goodIn_app (goodIn_of _ (by decide +kernel)) ggX3_factOfFunction_X2_greatest
set_option maxRecDepth 20000 in
theorem ggX3_factOfFunction_X2_firstGreatest : GoodIn wsX3_factOfFunction wsX2_firstGreatest := goodIn_r _ [29, 6, 7, 8, 4, 9, 10, 35] (by decide +kernel) (by decide +kernel)
set_option maxRecDepth 20000 in
theorem gX3_factOfFunction_X2_firstGreatest : GoodIn wsX3_factOfFunction (wsV RX3 305 RX2 yX2_firstGreatest wsX2_firstGreatest) := goodIn_app (goodIn_of _ (by decide +kernel)) ggX3_factOfFunction_X2_firstGreatest
set_option maxRecDepth 20000 in
theorem ggX3_factOfFunction_X3_areaBetween : GoodIn wsX3_factOfFunction wsX3_areaBetween := goodIn_r _ [33, 34, 7, 8, 4, 9, 10, 35] (by decide +kernel) (by decide +kernel)
set_option maxRecDepth 20000 in
theorem gX3_factOfFunction_X3_areaBetween : GoodIn wsX3_factOfFunction (va_wsS RX3 192 yX3_areaBetween wsX3_areaBetween) := goodIn_app (goodIn_of _ (by decide +kernel)) ggX3_factOfFunction_X3_areaBetween
theorem dX3_factOfFunction_0 : decode cX3_factOfFunction 0 = .ok (.iload_n 1, 1) := by decide +kernel
theorem dX3_factOfFunction_1 : decode cX3_factOfFunction 1 = .ok (.tableswitch 59 0 3 #[31, 36, 45, 54], 31) := by decide +kernel
theorem dX3_factOfFunction_32 : decode cX3_factOfFunction 32 = .ok (.aload_n 0, 1) := by decide +kernel
theorem dX3_factOfFunction_33 : decode cX3_factOfFunction 33 = .ok (.invokevirtual 147, 3) := by decide +kernel
theorem dX3_factOfFunction_36 : decode cX3_factOfFunction 36 = .ok (.ireturn, 1) := by decide +kernel
theorem dX3_factOfFunction_37 : decode cX3_factOfFunction 37 = .ok (.aload_n 0, 1) := by decide +kernel
theorem dX3_factOfFunction_38 : decode cX3_factOfFunction 38 = .ok (.iconst 0, 1) := by decide +kernel
theorem dX3_factOfFunction_39 : decode cX3_factOfFunction 39 = .ok (.sipush 200, 3) := by decide +kernel
theorem dX3_factOfFunction_42 : decode cX3_factOfFunction 42 = .ok (.invokevirtual 299, 3) := by decide +kernel
theorem dX3_factOfFunction_45 : decode cX3_factOfFunction 45 = .ok (.ireturn, 1) := by decide +kernel
theorem dX3_factOfFunction_46 : decode cX3_factOfFunction 46 = .ok (.aload_n 0, 1) := by decide +kernel
theorem dX3_factOfFunction_47 : decode cX3_factOfFunction 47 = .ok (.iconst 0, 1) := by decide +kernel
theorem dX3_factOfFunction_48 : decode cX3_factOfFunction 48 = .ok (.sipush 200, 3) := by decide +kernel
theorem dX3_factOfFunction_51 : decode cX3_factOfFunction 51 = .ok (.invokevirtual 302, 3) := by decide +kernel
theorem dX3_factOfFunction_54 : decode cX3_factOfFunction 54 = .ok (.ireturn, 1) := by decide +kernel
theorem dX3_factOfFunction_55 : decode cX3_factOfFunction 55 = .ok (.aload_n 0, 1) := by decide +kernel
theorem dX3_factOfFunction_56 : decode cX3_factOfFunction 56 = .ok (.invokevirtual 305, 3) := by decide +kernel
theorem dX3_factOfFunction_59 : decode cX3_factOfFunction 59 = .ok (.ireturn, 1) := by decide +kernel
theorem dX3_factOfFunction_60 : decode cX3_factOfFunction 60 = .ok (.aload_n 0, 1) := by decide +kernel
theorem dX3_factOfFunction_61 : decode cX3_factOfFunction 61 = .ok (.iconst 0, 1) := by decide +kernel
theorem dX3_factOfFunction_62 : decode cX3_factOfFunction 62 = .ok (.bipush 100, 2) := by decide +kernel
theorem dX3_factOfFunction_64 : decode cX3_factOfFunction 64 = .ok (.invokestatic 192, 3) := by decide +kernel
theorem dX3_factOfFunction_67 : decode cX3_factOfFunction 67 = .ok (.ireturn, 1) := by decide +kernel
set_option maxRecDepth 20000 in
theorem ggX3_areaOver_X0_holds : GoodIn wsX3_areaOver wsX0_holds := goodIn_r _ [5, 6, 13] (by decide +kernel) (by decide +kernel)
set_option maxRecDepth 20000 in
theorem gX3_areaOver_X0_holds : GoodIn wsX3_areaOver (wsV RX3 65 RX0 yX0_holds wsX0_holds) := goodIn_app (goodIn_of _ (by decide +kernel)) ggX3_areaOver_X0_holds
set_option maxRecDepth 20000 in
theorem ggX3_areaOver_X2_at : GoodIn wsX3_areaOver wsX2_at := goodIn_r _ [11, 12, 14] (by decide +kernel) (by decide +kernel)
set_option maxRecDepth 20000 in
theorem gX3_areaOver_X2_at : GoodIn wsX3_areaOver (wsV RX3 141 RX2 yX2_at wsX2_at) := goodIn_app (goodIn_of _ (by decide +kernel)) ggX3_areaOver_X2_at
theorem dX3_areaOver_0 : decode cX3_areaOver 0 = .ok (.iconst 0, 1) := by decide +kernel
theorem dX3_areaOver_1 : decode cX3_areaOver 1 = .ok (.istore_n 2, 1) := by decide +kernel
theorem dX3_areaOver_2 : decode cX3_areaOver 2 = .ok (.iconst 1, 1) := by decide +kernel
theorem dX3_areaOver_3 : decode cX3_areaOver 3 = .ok (.istore_n 3, 1) := by decide +kernel
theorem dX3_areaOver_4 : decode cX3_areaOver 4 = .ok (.iload_n 3, 1) := by decide +kernel
theorem dX3_areaOver_5 : decode cX3_areaOver 5 = .ok (.sipush 201, 3) := by decide +kernel
theorem dX3_areaOver_8 : decode cX3_areaOver 8 = .ok (.if_icmp .ge 25, 3) := by decide +kernel
theorem dX3_areaOver_11 : decode cX3_areaOver 11 = .ok (.aload_n 1, 1) := by decide +kernel
theorem dX3_areaOver_12 : decode cX3_areaOver 12 = .ok (.iload_n 3, 1) := by decide +kernel
theorem dX3_areaOver_13 : decode cX3_areaOver 13 = .ok (.invokevirtual 65, 3) := by decide +kernel
theorem dX3_areaOver_16 : decode cX3_areaOver 16 = .ok (.ifCond .eq 11, 3) := by decide +kernel
theorem dX3_areaOver_19 : decode cX3_areaOver 19 = .ok (.iload_n 2, 1) := by decide +kernel
theorem dX3_areaOver_20 : decode cX3_areaOver 20 = .ok (.aload_n 0, 1) := by decide +kernel
theorem dX3_areaOver_21 : decode cX3_areaOver 21 = .ok (.iload_n 3, 1) := by decide +kernel
theorem dX3_areaOver_22 : decode cX3_areaOver 22 = .ok (.invokevirtual 141, 3) := by decide +kernel
theorem dX3_areaOver_25 : decode cX3_areaOver 25 = .ok (.iadd, 1) := by decide +kernel
theorem dX3_areaOver_26 : decode cX3_areaOver 26 = .ok (.istore_n 2, 1) := by decide +kernel
theorem dX3_areaOver_27 : decode cX3_areaOver 27 = .ok (.iinc 3 2, 3) := by decide +kernel
theorem dX3_areaOver_30 : decode cX3_areaOver 30 = .ok (.goto (-26), 3) := by decide +kernel
theorem dX3_areaOver_33 : decode cX3_areaOver 33 = .ok (.iload_n 2, 1) := by decide +kernel
theorem dX3_areaOver_34 : decode cX3_areaOver 34 = .ok (.ireturn, 1) := by decide +kernel
set_option maxRecDepth 20000 in
theorem ggX3_areaBetween_X2_at : GoodIn wsX3_areaBetween wsX2_at := goodIn_r _ [5, 6, 7] (by decide +kernel) (by decide +kernel)
set_option maxRecDepth 20000 in
theorem gX3_areaBetween_X2_at : GoodIn wsX3_areaBetween (wsV RX3 141 RX2 yX2_at wsX2_at) := goodIn_app (goodIn_of _ (by decide +kernel)) ggX3_areaBetween_X2_at
theorem dX3_areaBetween_0 : decode cX3_areaBetween 0 = .ok (.iconst 0, 1) := by decide +kernel
theorem dX3_areaBetween_1 : decode cX3_areaBetween 1 = .ok (.istore_n 3, 1) := by decide +kernel
theorem dX3_areaBetween_2 : decode cX3_areaBetween 2 = .ok (.iload_n 1, 1) := by decide +kernel
theorem dX3_areaBetween_3 : decode cX3_areaBetween 3 = .ok (.istore 4, 2) := by decide +kernel
theorem dX3_areaBetween_5 : decode cX3_areaBetween 5 = .ok (.iload 4, 2) := by decide +kernel
theorem dX3_areaBetween_7 : decode cX3_areaBetween 7 = .ok (.iload_n 2, 1) := by decide +kernel
theorem dX3_areaBetween_8 : decode cX3_areaBetween 8 = .ok (.if_icmp .ge 22, 3) := by decide +kernel
theorem dX3_areaBetween_11 : decode cX3_areaBetween 11 = .ok (.iload_n 3, 1) := by decide +kernel
theorem dX3_areaBetween_12 : decode cX3_areaBetween 12 = .ok (.aload_n 0, 1) := by decide +kernel
theorem dX3_areaBetween_13 : decode cX3_areaBetween 13 = .ok (.iconst 2, 1) := by decide +kernel
theorem dX3_areaBetween_14 : decode cX3_areaBetween 14 = .ok (.iload 4, 2) := by decide +kernel
theorem dX3_areaBetween_16 : decode cX3_areaBetween 16 = .ok (.imul, 1) := by decide +kernel
theorem dX3_areaBetween_17 : decode cX3_areaBetween 17 = .ok (.iconst 1, 1) := by decide +kernel
theorem dX3_areaBetween_18 : decode cX3_areaBetween 18 = .ok (.iadd, 1) := by decide +kernel
theorem dX3_areaBetween_19 : decode cX3_areaBetween 19 = .ok (.invokevirtual 141, 3) := by decide +kernel
theorem dX3_areaBetween_22 : decode cX3_areaBetween 22 = .ok (.iadd, 1) := by decide +kernel
theorem dX3_areaBetween_23 : decode cX3_areaBetween 23 = .ok (.istore_n 3, 1) := by decide +kernel
theorem dX3_areaBetween_24 : decode cX3_areaBetween 24 = .ok (.iinc 4 1, 3) := by decide +kernel
theorem dX3_areaBetween_27 : decode cX3_areaBetween 27 = .ok (.goto (-22), 3) := by decide +kernel
theorem dX3_areaBetween_30 : decode cX3_areaBetween 30 = .ok (.iload_n 3, 1) := by decide +kernel
theorem dX3_areaBetween_31 : decode cX3_areaBetween 31 = .ok (.ireturn, 1) := by decide +kernel
set_option maxRecDepth 20000 in
theorem ggX3_memberOrNull_X3_setOrNull : GoodIn wsX3_memberOrNull wsX3_setOrNull := goodIn_r _ [5, 6, 7, 8, 9, 10, 11, 12] (by decide +kernel) (by decide +kernel)
set_option maxRecDepth 20000 in
theorem gX3_memberOrNull_X3_setOrNull : GoodIn wsX3_memberOrNull (wsV RX3 211 RX3 yX3_setOrNull wsX3_setOrNull) := goodIn_app (goodIn_of _ (by decide +kernel)) ggX3_memberOrNull_X3_setOrNull
theorem dX3_memberOrNull_0 : decode cX3_memberOrNull 0 = .ok (.iload_n 1, 1) := by decide +kernel
theorem dX3_memberOrNull_1 : decode cX3_memberOrNull 1 = .ok (.iload_n 2, 1) := by decide +kernel
theorem dX3_memberOrNull_2 : decode cX3_memberOrNull 2 = .ok (.ishr, 1) := by decide +kernel
theorem dX3_memberOrNull_3 : decode cX3_memberOrNull 3 = .ok (.iconst 1, 1) := by decide +kernel
theorem dX3_memberOrNull_4 : decode cX3_memberOrNull 4 = .ok (.iand, 1) := by decide +kernel
theorem dX3_memberOrNull_5 : decode cX3_memberOrNull 5 = .ok (.iconst 1, 1) := by decide +kernel
theorem dX3_memberOrNull_6 : decode cX3_memberOrNull 6 = .ok (.if_icmp .ne 11, 3) := by decide +kernel
theorem dX3_memberOrNull_9 : decode cX3_memberOrNull 9 = .ok (.aload_n 0, 1) := by decide +kernel
theorem dX3_memberOrNull_10 : decode cX3_memberOrNull 10 = .ok (.iload_n 2, 1) := by decide +kernel
theorem dX3_memberOrNull_11 : decode cX3_memberOrNull 11 = .ok (.invokevirtual 211, 3) := by decide +kernel
theorem dX3_memberOrNull_14 : decode cX3_memberOrNull 14 = .ok (.goto 4, 3) := by decide +kernel
theorem dX3_memberOrNull_17 : decode cX3_memberOrNull 17 = .ok (.aconst_null, 1) := by decide +kernel
theorem dX3_memberOrNull_18 : decode cX3_memberOrNull 18 = .ok (.areturn, 1) := by decide +kernel
set_option maxRecDepth 20000 in
theorem ggX3_thickness_X3_memberOrNull : GoodIn wsX3_thickness wsX3_memberOrNull := goodIn_r _ [5, 6, 7, 8, 4, 9, 10, 17, 18, 19, 20, 21, 22] (by decide +kernel) (by decide +kernel)
set_option maxRecDepth 20000 in
theorem gX3_thickness_X3_memberOrNull : GoodIn wsX3_thickness (wsV RX3 308 RX3 yX3_memberOrNull wsX3_memberOrNull) := goodIn_app (goodIn_of _ (by decide +kernel)) ggX3_thickness_X3_memberOrNull
set_option maxRecDepth 20000 in
theorem ggX3_thickness_X0_holds : GoodIn wsX3_thickness wsX0_holds := goodIn_r _ [15, 16, 23] (by decide +kernel) (by decide +kernel)
set_option maxRecDepth 20000 in
theorem gX3_thickness_X0_holds : GoodIn wsX3_thickness (wsV RX3 65 RX0 yX0_holds wsX0_holds) := goodIn_app (goodIn_of _ (by decide +kernel)) ggX3_thickness_X0_holds
theorem dX3_thickness_0 : decode cX3_thickness 0 = .ok (.iconst 0, 1) := by decide +kernel
theorem dX3_thickness_1 : decode cX3_thickness 1 = .ok (.istore_n 3, 1) := by decide +kernel
theorem dX3_thickness_2 : decode cX3_thickness 2 = .ok (.iconst 0, 1) := by decide +kernel
theorem dX3_thickness_3 : decode cX3_thickness 3 = .ok (.istore 4, 2) := by decide +kernel
theorem dX3_thickness_5 : decode cX3_thickness 5 = .ok (.iload 4, 2) := by decide +kernel
theorem dX3_thickness_7 : decode cX3_thickness 7 = .ok (.bipush 8, 2) := by decide +kernel
theorem dX3_thickness_9 : decode cX3_thickness 9 = .ok (.if_icmp .ge 35, 3) := by decide +kernel
theorem dX3_thickness_12 : decode cX3_thickness 12 = .ok (.aload_n 0, 1) := by decide +kernel
theorem dX3_thickness_13 : decode cX3_thickness 13 = .ok (.iload_n 1, 1) := by decide +kernel
theorem dX3_thickness_14 : decode cX3_thickness 14 = .ok (.iload 4, 2) := by decide +kernel
theorem dX3_thickness_16 : decode cX3_thickness 16 = .ok (.invokevirtual 308, 3) := by decide +kernel
theorem dX3_thickness_19 : decode cX3_thickness 19 = .ok (.astore 5, 2) := by decide +kernel
theorem dX3_thickness_21 : decode cX3_thickness 21 = .ok (.aload 5, 2) := by decide +kernel
theorem dX3_thickness_23 : decode cX3_thickness 23 = .ok (.ifnull 15, 3) := by decide +kernel
theorem dX3_thickness_26 : decode cX3_thickness 26 = .ok (.aload 5, 2) := by decide +kernel
theorem dX3_thickness_28 : decode cX3_thickness 28 = .ok (.iload_n 2, 1) := by decide +kernel
theorem dX3_thickness_29 : decode cX3_thickness 29 = .ok (.invokevirtual 65, 3) := by decide +kernel
theorem dX3_thickness_32 : decode cX3_thickness 32 = .ok (.ifCond .eq 6, 3) := by decide +kernel
theorem dX3_thickness_35 : decode cX3_thickness 35 = .ok (.iinc 3 1, 3) := by decide +kernel
theorem dX3_thickness_38 : decode cX3_thickness 38 = .ok (.iinc 4 1, 3) := by decide +kernel
theorem dX3_thickness_41 : decode cX3_thickness 41 = .ok (.goto (-36), 3) := by decide +kernel
theorem dX3_thickness_44 : decode cX3_thickness 44 = .ok (.iload_n 3, 1) := by decide +kernel
theorem dX3_thickness_45 : decode cX3_thickness 45 = .ok (.ireturn, 1) := by decide +kernel
set_option maxRecDepth 20000 in
theorem ggX3_countThicker_X3_thickness : GoodIn wsX3_countThicker wsX3_thickness := goodIn_r _ [5, 6, 7, 8, 4, 9, 10, 11, 12, 13, 14, 15, 16, 17, 18, 19, 20, 21, 22, 23, 24, 25, 26, 27] (by decide +kernel) (by decide +kernel)
set_option maxRecDepth 20000 in
theorem gX3_countThicker_X3_thickness : GoodIn wsX3_countThicker (wsV RX3 164 RX3 yX3_thickness wsX3_thickness) := goodIn_app (goodIn_of _ (by decide +kernel)) ggX3_countThicker_X3_thickness
theorem dX3_countThicker_0 : decode cX3_countThicker 0 = .ok (.iconst 0, 1) := by decide +kernel
theorem dX3_countThicker_1 : decode cX3_countThicker 1 = .ok (.istore_n 3, 1) := by decide +kernel
theorem dX3_countThicker_2 : decode cX3_countThicker 2 = .ok (.iconst 0, 1) := by decide +kernel
theorem dX3_countThicker_3 : decode cX3_countThicker 3 = .ok (.istore 4, 2) := by decide +kernel
theorem dX3_countThicker_5 : decode cX3_countThicker 5 = .ok (.iload 4, 2) := by decide +kernel
theorem dX3_countThicker_7 : decode cX3_countThicker 7 = .ok (.sipush 201, 3) := by decide +kernel
theorem dX3_countThicker_10 : decode cX3_countThicker 10 = .ok (.if_icmp .ge 23, 3) := by decide +kernel
theorem dX3_countThicker_13 : decode cX3_countThicker 13 = .ok (.aload_n 0, 1) := by decide +kernel
theorem dX3_countThicker_14 : decode cX3_countThicker 14 = .ok (.iload_n 1, 1) := by decide +kernel
theorem dX3_countThicker_15 : decode cX3_countThicker 15 = .ok (.iload 4, 2) := by decide +kernel
theorem dX3_countThicker_17 : decode cX3_countThicker 17 = .ok (.invokevirtual 164, 3) := by decide +kernel
theorem dX3_countThicker_20 : decode cX3_countThicker 20 = .ok (.iload_n 2, 1) := by decide +kernel
theorem dX3_countThicker_21 : decode cX3_countThicker 21 = .ok (.if_icmp .lt 6, 3) := by decide +kernel
theorem dX3_countThicker_24 : decode cX3_countThicker 24 = .ok (.iinc 3 1, 3) := by decide +kernel
theorem dX3_countThicker_27 : decode cX3_countThicker 27 = .ok (.iinc 4 1, 3) := by decide +kernel
theorem dX3_countThicker_30 : decode cX3_countThicker 30 = .ok (.goto (-25), 3) := by decide +kernel
theorem dX3_countThicker_33 : decode cX3_countThicker 33 = .ok (.iload_n 3, 1) := by decide +kernel
theorem dX3_countThicker_34 : decode cX3_countThicker 34 = .ok (.ireturn, 1) := by decide +kernel
set_option maxRecDepth 20000 in
theorem ggX3_takeCover_X0_holds : GoodIn wsX3_takeCover wsX0_holds := goodIn_r _ [6, 7, 33] (by decide +kernel) (by decide +kernel)
set_option maxRecDepth 20000 in
theorem gX3_takeCover_X0_holds : GoodIn wsX3_takeCover (wsV RX3 65 RX0 yX0_holds wsX0_holds) := goodIn_app (goodIn_of _ (by decide +kernel)) ggX3_takeCover_X0_holds
set_option maxRecDepth 20000 in
theorem ggX3_takeCover_X3_farthestFrom : GoodIn wsX3_takeCover wsX3_farthestFrom := goodIn_r _ [12, 13, 14, 15, 11, 16, 17, 18, 19, 20, 21, 2, 3, 4, 5, 6, 7, 22, 23, 24, 25, 26, 27, 28, 29, 30, 31, 32, 33] (by decide +kernel) (by decide +kernel)
set_option maxRecDepth 20000 in
theorem gX3_takeCover_X3_farthestFrom : GoodIn wsX3_takeCover (wsV RX3 312 RX3 yX3_farthestFrom wsX3_farthestFrom) := goodIn_app (goodIn_of _ (by decide +kernel)) ggX3_takeCover_X3_farthestFrom
set_option maxRecDepth 20000 in
theorem ggX3_takeCover_X3_setOrNull : GoodIn wsX3_takeCover wsX3_setOrNull := goodIn_r _ [20, 21, 27, 28, 29, 30, 31, 32] (by decide +kernel) (by decide +kernel)
set_option maxRecDepth 20000 in
theorem gX3_takeCover_X3_setOrNull : GoodIn wsX3_takeCover (wsV RX3 211 RX3 yX3_setOrNull wsX3_setOrNull) := goodIn_app (goodIn_of _ (by decide +kernel)) ggX3_takeCover_X3_setOrNull
set_option maxRecDepth 20000 in
theorem ggX3_takeCover_X0_lastOfRun : GoodIn wsX3_takeCover wsX0_lastOfRun := goodIn_r _ [25, 26, 3, 4, 5, 6, 7, 33] (by decide +kernel) (by decide +kernel)
set_option maxRecDepth 20000 in
theorem gX3_takeCover_X0_lastOfRun : GoodIn wsX3_takeCover (wsV RX3 315 RX0 yX0_lastOfRun wsX0_lastOfRun) := goodIn_app (goodIn_of _ (by decide +kernel)) ggX3_takeCover_X0_lastOfRun
theorem dX3_takeCover_0 : decode cX3_takeCover 0 = .ok (.iconst 0, 1) := by decide +kernel
theorem dX3_takeCover_1 : decode cX3_takeCover 1 = .ok (.istore_n 3, 1) := by decide +kernel
theorem dX3_takeCover_2 : decode cX3_takeCover 2 = .ok (.iconst (-1), 1) := by decide +kernel
theorem dX3_takeCover_3 : decode cX3_takeCover 3 = .ok (.istore 4, 2) := by decide +kernel
theorem dX3_takeCover_5 : decode cX3_takeCover 5 = .ok (.iconst 0, 1) := by decide +kernel
theorem dX3_takeCover_6 : decode cX3_takeCover 6 = .ok (.istore 5, 2) := by decide +kernel
theorem dX3_takeCover_8 : decode cX3_takeCover 8 = .ok (.iload 5, 2) := by decide +kernel
theorem dX3_takeCover_10 : decode cX3_takeCover 10 = .ok (.sipush 201, 3) := by decide +kernel
theorem dX3_takeCover_13 : decode cX3_takeCover 13 = .ok (.if_icmp .ge 78, 3) := by decide +kernel
theorem dX3_takeCover_16 : decode cX3_takeCover 16 = .ok (.iload 5, 2) := by decide +kernel
theorem dX3_takeCover_18 : decode cX3_takeCover 18 = .ok (.iload 4, 2) := by decide +kernel
theorem dX3_takeCover_20 : decode cX3_takeCover 20 = .ok (.if_icmp .le 65, 3) := by decide +kernel
theorem dX3_takeCover_23 : decode cX3_takeCover 23 = .ok (.aload_n 2, 1) := by decide +kernel
theorem dX3_takeCover_24 : decode cX3_takeCover 24 = .ok (.iload 5, 2) := by decide +kernel
theorem dX3_takeCover_26 : decode cX3_takeCover 26 = .ok (.invokevirtual 65, 3) := by decide +kernel
theorem dX3_takeCover_29 : decode cX3_takeCover 29 = .ok (.ifCond .eq 56, 3) := by decide +kernel
theorem dX3_takeCover_32 : decode cX3_takeCover 32 = .ok (.aload_n 0, 1) := by decide +kernel
theorem dX3_takeCover_33 : decode cX3_takeCover 33 = .ok (.iload_n 1, 1) := by decide +kernel
theorem dX3_takeCover_34 : decode cX3_takeCover 34 = .ok (.iload 5, 2) := by decide +kernel
theorem dX3_takeCover_36 : decode cX3_takeCover 36 = .ok (.invokevirtual 312, 3) := by decide +kernel
theorem dX3_takeCover_39 : decode cX3_takeCover 39 = .ok (.istore 6, 2) := by decide +kernel
theorem dX3_takeCover_41 : decode cX3_takeCover 41 = .ok (.aload_n 0, 1) := by decide +kernel
theorem dX3_takeCover_42 : decode cX3_takeCover 42 = .ok (.iload 6, 2) := by decide +kernel
theorem dX3_takeCover_44 : decode cX3_takeCover 44 = .ok (.invokevirtual 211, 3) := by decide +kernel
theorem dX3_takeCover_47 : decode cX3_takeCover 47 = .ok (.astore 7, 2) := by decide +kernel
theorem dX3_takeCover_49 : decode cX3_takeCover 49 = .ok (.aload 7, 2) := by decide +kernel
theorem dX3_takeCover_51 : decode cX3_takeCover 51 = .ok (.ifnonnull 5, 3) := by decide +kernel
theorem dX3_takeCover_54 : decode cX3_takeCover 54 = .ok (.iconst (-1), 1) := by decide +kernel
theorem dX3_takeCover_55 : decode cX3_takeCover 55 = .ok (.ireturn, 1) := by decide +kernel
theorem dX3_takeCover_56 : decode cX3_takeCover 56 = .ok (.aload 7, 2) := by decide +kernel
theorem dX3_takeCover_58 : decode cX3_takeCover 58 = .ok (.iload 5, 2) := by decide +kernel
theorem dX3_takeCover_60 : decode cX3_takeCover 60 = .ok (.invokevirtual 315, 3) := by decide +kernel
theorem dX3_takeCover_63 : decode cX3_takeCover 63 = .ok (.istore 4, 2) := by decide +kernel
theorem dX3_takeCover_65 : decode cX3_takeCover 65 = .ok (.iload_n 3, 1) := by decide +kernel
theorem dX3_takeCover_66 : decode cX3_takeCover 66 = .ok (.aload_n 0, 1) := by decide +kernel
theorem dX3_takeCover_67 : decode cX3_takeCover 67 = .ok (.getfield 38, 3) := by decide +kernel
theorem dX3_takeCover_70 : decode cX3_takeCover 70 = .ok (.arraylength, 1) := by decide +kernel
theorem dX3_takeCover_71 : decode cX3_takeCover 71 = .ok (.if_icmp .ge 11, 3) := by decide +kernel
theorem dX3_takeCover_74 : decode cX3_takeCover 74 = .ok (.aload_n 0, 1) := by decide +kernel
theorem dX3_takeCover_75 : decode cX3_takeCover 75 = .ok (.getfield 38, 3) := by decide +kernel
theorem dX3_takeCover_78 : decode cX3_takeCover 78 = .ok (.iload_n 3, 1) := by decide +kernel
theorem dX3_takeCover_79 : decode cX3_takeCover 79 = .ok (.iload 6, 2) := by decide +kernel
theorem dX3_takeCover_81 : decode cX3_takeCover 81 = .ok (.iastore, 1) := by decide +kernel
theorem dX3_takeCover_82 : decode cX3_takeCover 82 = .ok (.iinc 3 1, 3) := by decide +kernel
theorem dX3_takeCover_85 : decode cX3_takeCover 85 = .ok (.iinc 5 1, 3) := by decide +kernel
theorem dX3_takeCover_88 : decode cX3_takeCover 88 = .ok (.goto (-80), 3) := by decide +kernel
theorem dX3_takeCover_91 : decode cX3_takeCover 91 = .ok (.iload_n 3, 1) := by decide +kernel
theorem dX3_takeCover_92 : decode cX3_takeCover 92 = .ok (.ireturn, 1) := by decide +kernel
set_option maxRecDepth 20000 in
theorem ggX3_farthestFrom_X3_memberOrNull : GoodIn wsX3_farthestFrom wsX3_memberOrNull := goodIn_r _ [5, 6, 7, 8, 4, 9, 10, 22, 23, 24, 25, 26, 27] (by decide +kernel) (by decide +kernel)
set_option maxRecDepth 20000 in
theorem gX3_farthestFrom_X3_memberOrNull : GoodIn wsX3_farthestFrom (wsV RX3 308 RX3 yX3_memberOrNull wsX3_memberOrNull) := goodIn_app (goodIn_of _ (by decide +kernel)) ggX3_farthestFrom_X3_memberOrNull
set_option maxRecDepth 20000 in
theorem ggX3_farthestFrom_X0_holds : GoodIn wsX3_farthestFrom wsX0_holds := goodIn_r _ [15, 16, 28] (by decide +kernel) (by decide +kernel)
set_option maxRecDepth 20000 in
theorem gX3_farthestFrom_X0_holds : GoodIn wsX3_farthestFrom (wsV RX3 65 RX0 yX0_holds wsX0_holds) := goodIn_app (goodIn_of _ (by decide +kernel)) ggX3_farthestFrom_X0_holds
set_option maxRecDepth 20000 in
theorem ggX3_farthestFrom_X0_lastOfRun : GoodIn wsX3_farthestFrom wsX0_lastOfRun := goodIn_r _ [20, 21, 12, 13, 14, 15, 16, 28] (by decide +kernel) (by decide +kernel)
set_option maxRecDepth 20000 in
theorem gX3_farthestFrom_X0_lastOfRun : GoodIn wsX3_farthestFrom (wsV RX3 315 RX0 yX0_lastOfRun wsX0_lastOfRun) := goodIn_app (goodIn_of _ (by decide +kernel)) ggX3_farthestFrom_X0_lastOfRun
theorem dX3_farthestFrom_0 : decode cX3_farthestFrom 0 = .ok (.iconst (-1), 1) := by decide +kernel
theorem dX3_farthestFrom_1 : decode cX3_farthestFrom 1 = .ok (.istore_n 3, 1) := by decide +kernel
theorem dX3_farthestFrom_2 : decode cX3_farthestFrom 2 = .ok (.iconst (-1), 1) := by decide +kernel
theorem dX3_farthestFrom_3 : decode cX3_farthestFrom 3 = .ok (.istore 4, 2) := by decide +kernel
theorem dX3_farthestFrom_5 : decode cX3_farthestFrom 5 = .ok (.iconst 0, 1) := by decide +kernel
theorem dX3_farthestFrom_6 : decode cX3_farthestFrom 6 = .ok (.istore 5, 2) := by decide +kernel
theorem dX3_farthestFrom_8 : decode cX3_farthestFrom 8 = .ok (.iload 5, 2) := by decide +kernel
theorem dX3_farthestFrom_10 : decode cX3_farthestFrom 10 = .ok (.bipush 8, 2) := by decide +kernel
theorem dX3_farthestFrom_12 : decode cX3_farthestFrom 12 = .ok (.if_icmp .ge 54, 3) := by decide +kernel
theorem dX3_farthestFrom_15 : decode cX3_farthestFrom 15 = .ok (.aload_n 0, 1) := by decide +kernel
theorem dX3_farthestFrom_16 : decode cX3_farthestFrom 16 = .ok (.iload_n 1, 1) := by decide +kernel
theorem dX3_farthestFrom_17 : decode cX3_farthestFrom 17 = .ok (.iload 5, 2) := by decide +kernel
theorem dX3_farthestFrom_19 : decode cX3_farthestFrom 19 = .ok (.invokevirtual 308, 3) := by decide +kernel
theorem dX3_farthestFrom_22 : decode cX3_farthestFrom 22 = .ok (.astore 6, 2) := by decide +kernel
theorem dX3_farthestFrom_24 : decode cX3_farthestFrom 24 = .ok (.aload 6, 2) := by decide +kernel
theorem dX3_farthestFrom_26 : decode cX3_farthestFrom 26 = .ok (.ifnull 34, 3) := by decide +kernel
theorem dX3_farthestFrom_29 : decode cX3_farthestFrom 29 = .ok (.aload 6, 2) := by decide +kernel
theorem dX3_farthestFrom_31 : decode cX3_farthestFrom 31 = .ok (.iload_n 2, 1) := by decide +kernel
theorem dX3_farthestFrom_32 : decode cX3_farthestFrom 32 = .ok (.invokevirtual 65, 3) := by decide +kernel
theorem dX3_farthestFrom_35 : decode cX3_farthestFrom 35 = .ok (.ifCond .eq 25, 3) := by decide +kernel
theorem dX3_farthestFrom_38 : decode cX3_farthestFrom 38 = .ok (.aload 6, 2) := by decide +kernel
theorem dX3_farthestFrom_40 : decode cX3_farthestFrom 40 = .ok (.iload_n 2, 1) := by decide +kernel
theorem dX3_farthestFrom_41 : decode cX3_farthestFrom 41 = .ok (.invokevirtual 315, 3) := by decide +kernel
theorem dX3_farthestFrom_44 : decode cX3_farthestFrom 44 = .ok (.iload 4, 2) := by decide +kernel
theorem dX3_farthestFrom_46 : decode cX3_farthestFrom 46 = .ok (.if_icmp .le 14, 3) := by decide +kernel
theorem dX3_farthestFrom_49 : decode cX3_farthestFrom 49 = .ok (.iload 5, 2) := by decide +kernel
theorem dX3_farthestFrom_51 : decode cX3_farthestFrom 51 = .ok (.istore_n 3, 1) := by decide +kernel
theorem dX3_farthestFrom_52 : decode cX3_farthestFrom 52 = .ok (.aload 6, 2) := by decide +kernel
theorem dX3_farthestFrom_54 : decode cX3_farthestFrom 54 = .ok (.iload_n 2, 1) := by decide +kernel
theorem dX3_farthestFrom_55 : decode cX3_farthestFrom 55 = .ok (.invokevirtual 315, 3) := by decide +kernel
theorem dX3_farthestFrom_58 : decode cX3_farthestFrom 58 = .ok (.istore 4, 2) := by decide +kernel
theorem dX3_farthestFrom_60 : decode cX3_farthestFrom 60 = .ok (.iinc 5 1, 3) := by decide +kernel
theorem dX3_farthestFrom_63 : decode cX3_farthestFrom 63 = .ok (.goto (-55), 3) := by decide +kernel
theorem dX3_farthestFrom_66 : decode cX3_farthestFrom 66 = .ok (.iload_n 3, 1) := by decide +kernel
theorem dX3_farthestFrom_67 : decode cX3_farthestFrom 67 = .ok (.ireturn, 1) := by decide +kernel
set_option maxRecDepth 20000 in
theorem ggX3_countPins_X3_endsUnpinned : GoodIn wsX3_countPins wsX3_endsUnpinned := goodIn_r _ [5, 6, 7, 8, 4, 9, 10, 11, 12, 13, 14, 15, 16, 17, 18, 19, 20, 21, 22, 23, 24, 25, 26, 27, 28, 29, 30, 31, 32] (by decide +kernel) (by decide +kernel)
set_option maxRecDepth 20000 in
theorem gX3_countPins_X3_endsUnpinned : GoodIn wsX3_countPins (wsV RX3 318 RX3 yX3_endsUnpinned wsX3_endsUnpinned) := goodIn_app (goodIn_of _ (by decide +kernel)) ggX3_countPins_X3_endsUnpinned
theorem dX3_countPins_0 : decode cX3_countPins 0 = .ok (.iconst 0, 1) := by decide +kernel
theorem dX3_countPins_1 : decode cX3_countPins 1 = .ok (.istore_n 2, 1) := by decide +kernel
theorem dX3_countPins_2 : decode cX3_countPins 2 = .ok (.iconst (-1), 1) := by decide +kernel
theorem dX3_countPins_3 : decode cX3_countPins 3 = .ok (.istore_n 3, 1) := by decide +kernel
theorem dX3_countPins_4 : decode cX3_countPins 4 = .ok (.iconst 0, 1) := by decide +kernel
theorem dX3_countPins_5 : decode cX3_countPins 5 = .ok (.istore 4, 2) := by decide +kernel
theorem dX3_countPins_7 : decode cX3_countPins 7 = .ok (.iload 4, 2) := by decide +kernel
theorem dX3_countPins_9 : decode cX3_countPins 9 = .ok (.sipush 201, 3) := by decide +kernel
theorem dX3_countPins_12 : decode cX3_countPins 12 = .ok (.if_icmp .ge 26, 3) := by decide +kernel
theorem dX3_countPins_15 : decode cX3_countPins 15 = .ok (.aload_n 0, 1) := by decide +kernel
theorem dX3_countPins_16 : decode cX3_countPins 16 = .ok (.iload_n 1, 1) := by decide +kernel
theorem dX3_countPins_17 : decode cX3_countPins 17 = .ok (.iload 4, 2) := by decide +kernel
theorem dX3_countPins_19 : decode cX3_countPins 19 = .ok (.iload_n 3, 1) := by decide +kernel
theorem dX3_countPins_20 : decode cX3_countPins 20 = .ok (.invokevirtual 318, 3) := by decide +kernel
theorem dX3_countPins_23 : decode cX3_countPins 23 = .ok (.ifCond .eq 9, 3) := by decide +kernel
theorem dX3_countPins_26 : decode cX3_countPins 26 = .ok (.iinc 2 1, 3) := by decide +kernel
theorem dX3_countPins_29 : decode cX3_countPins 29 = .ok (.iload 4, 2) := by decide +kernel
theorem dX3_countPins_31 : decode cX3_countPins 31 = .ok (.istore_n 3, 1) := by decide +kernel
theorem dX3_countPins_32 : decode cX3_countPins 32 = .ok (.iinc 4 1, 3) := by decide +kernel
theorem dX3_countPins_35 : decode cX3_countPins 35 = .ok (.goto (-28), 3) := by decide +kernel
theorem dX3_countPins_38 : decode cX3_countPins 38 = .ok (.iload_n 2, 1) := by decide +kernel
theorem dX3_countPins_39 : decode cX3_countPins 39 = .ok (.ireturn, 1) := by decide +kernel
set_option maxRecDepth 20000 in
theorem ggX3_endsUnpinned_X3_memberOrNull : GoodIn wsX3_endsUnpinned wsX3_memberOrNull := goodIn_r _ [5, 6, 7, 8, 4, 9, 10, 22, 23, 24, 25, 26, 27] (by decide +kernel) (by decide +kernel)
set_option maxRecDepth 20000 in
theorem gX3_endsUnpinned_X3_memberOrNull : GoodIn wsX3_endsUnpinned (wsV RX3 308 RX3 yX3_memberOrNull wsX3_memberOrNull) := goodIn_app (goodIn_of _ (by decide +kernel)) ggX3_endsUnpinned_X3_memberOrNull
set_option maxRecDepth 20000 in
theorem ggX3_endsUnpinned_X0_holds : GoodIn wsX3_endsUnpinned wsX0_holds := goodIn_r _ [15, 16, 28] (by decide +kernel) (by decide +kernel)
set_option maxRecDepth 20000 in
theorem gX3_endsUnpinned_X0_holds : GoodIn wsX3_endsUnpinned (wsV RX3 65 RX0 yX0_holds wsX0_holds) := goodIn_app (goodIn_of _ (by decide +kernel)) ggX3_endsUnpinned_X0_holds
set_option maxRecDepth 20000 in
theorem ggX3_endsUnpinned_X0_firstOfRun : GoodIn wsX3_endsUnpinned wsX0_firstOfRun := goodIn_r _ [20, 21, 12, 13, 14, 15, 16, 28] (by decide +kernel) (by decide +kernel)
set_option maxRecDepth 20000 in
theorem gX3_endsUnpinned_X0_firstOfRun : GoodIn wsX3_endsUnpinned (wsV RX3 322 RX0 yX0_firstOfRun wsX0_firstOfRun) := goodIn_app (goodIn_of _ (by decide +kernel)) ggX3_endsUnpinned_X0_firstOfRun
theorem dX3_endsUnpinned_0 : decode cX3_endsUnpinned 0 = .ok (.iconst 0, 1) := by decide +kernel
theorem dX3_endsUnpinned_1 : decode cX3_endsUnpinned 1 = .ok (.istore 4, 2) := by decide +kernel
theorem dX3_endsUnpinned_3 : decode cX3_endsUnpinned 3 = .ok (.iload 4, 2) := by decide +kernel
theorem dX3_endsUnpinned_5 : decode cX3_endsUnpinned 5 = .ok (.bipush 8, 2) := by decide +kernel
theorem dX3_endsUnpinned_7 : decode cX3_endsUnpinned 7 = .ok (.if_icmp .ge 55, 3) := by decide +kernel
theorem dX3_endsUnpinned_10 : decode cX3_endsUnpinned 10 = .ok (.aload_n 0, 1) := by decide +kernel
theorem dX3_endsUnpinned_11 : decode cX3_endsUnpinned 11 = .ok (.iload_n 1, 1) := by decide +kernel
theorem dX3_endsUnpinned_12 : decode cX3_endsUnpinned 12 = .ok (.iload 4, 2) := by decide +kernel
theorem dX3_endsUnpinned_14 : decode cX3_endsUnpinned 14 = .ok (.invokevirtual 308, 3) := by decide +kernel
theorem dX3_endsUnpinned_17 : decode cX3_endsUnpinned 17 = .ok (.astore 5, 2) := by decide +kernel
theorem dX3_endsUnpinned_19 : decode cX3_endsUnpinned 19 = .ok (.aload 5, 2) := by decide +kernel
theorem dX3_endsUnpinned_21 : decode cX3_endsUnpinned 21 = .ok (.ifnull 35, 3) := by decide +kernel
theorem dX3_endsUnpinned_24 : decode cX3_endsUnpinned 24 = .ok (.aload 5, 2) := by decide +kernel
theorem dX3_endsUnpinned_26 : decode cX3_endsUnpinned 26 = .ok (.iload_n 2, 1) := by decide +kernel
theorem dX3_endsUnpinned_27 : decode cX3_endsUnpinned 27 = .ok (.invokevirtual 65, 3) := by decide +kernel
theorem dX3_endsUnpinned_30 : decode cX3_endsUnpinned 30 = .ok (.ifCond .eq 26, 3) := by decide +kernel
theorem dX3_endsUnpinned_33 : decode cX3_endsUnpinned 33 = .ok (.aload 5, 2) := by decide +kernel
theorem dX3_endsUnpinned_35 : decode cX3_endsUnpinned 35 = .ok (.iload_n 2, 1) := by decide +kernel
theorem dX3_endsUnpinned_36 : decode cX3_endsUnpinned 36 = .ok (.iconst 1, 1) := by decide +kernel
theorem dX3_endsUnpinned_37 : decode cX3_endsUnpinned 37 = .ok (.iadd, 1) := by decide +kernel
theorem dX3_endsUnpinned_38 : decode cX3_endsUnpinned 38 = .ok (.invokevirtual 65, 3) := by decide +kernel
theorem dX3_endsUnpinned_41 : decode cX3_endsUnpinned 41 = .ok (.ifCond .ne 15, 3) := by decide +kernel
theorem dX3_endsUnpinned_44 : decode cX3_endsUnpinned 44 = .ok (.aload 5, 2) := by decide +kernel
theorem dX3_endsUnpinned_46 : decode cX3_endsUnpinned 46 = .ok (.iload_n 2, 1) := by decide +kernel
theorem dX3_endsUnpinned_47 : decode cX3_endsUnpinned 47 = .ok (.invokevirtual 322, 3) := by decide +kernel
theorem dX3_endsUnpinned_50 : decode cX3_endsUnpinned 50 = .ok (.iload_n 3, 1) := by decide +kernel
theorem dX3_endsUnpinned_51 : decode cX3_endsUnpinned 51 = .ok (.if_icmp .le 5, 3) := by decide +kernel
theorem dX3_endsUnpinned_54 : decode cX3_endsUnpinned 54 = .ok (.iconst 1, 1) := by decide +kernel
theorem dX3_endsUnpinned_55 : decode cX3_endsUnpinned 55 = .ok (.ireturn, 1) := by decide +kernel
theorem dX3_endsUnpinned_56 : decode cX3_endsUnpinned 56 = .ok (.iinc 4 1, 3) := by decide +kernel
theorem dX3_endsUnpinned_59 : decode cX3_endsUnpinned 59 = .ok (.goto (-56), 3) := by decide +kernel
theorem dX3_endsUnpinned_62 : decode cX3_endsUnpinned 62 = .ok (.iconst 0, 1) := by decide +kernel
theorem dX3_endsUnpinned_63 : decode cX3_endsUnpinned 63 = .ok (.ireturn, 1) := by decide +kernel
set_option maxRecDepth 20000 in
theorem ggX3_digestOfSet_X3_factOfSet : GoodIn wsX3_digestOfSet wsX3_factOfSet := goodIn_r _ [7, 2, 8, 9, 10, 11, 12, 13, 14, 15, 16, 17, 18, 19, 20, 21, 22, 23, 24, 25, 26, 27, 28, 29, 30, 31, 32, 33, 34, 35, 36, 37, 38, 39, 40, 41, 42, 43, 44, 45, 46, 47, 48, 49, 50, 51, 52, 53, 54, 55, 56, 57, 58, 59, 60, 61, 62, 63, 6, 64, 65, 66, 67, 68, 69, 71, 72, 73, 74, 75, 76, 77, 78, 79, 80] (by decide +kernel) (by decide +kernel)
set_option maxRecDepth 20000 in
theorem gX3_digestOfSet_X3_factOfSet : GoodIn wsX3_digestOfSet (wsV RX3 104 RX3 yX3_factOfSet wsX3_factOfSet) := goodIn_app (goodIn_of _ (by decide +kernel)) ggX3_digestOfSet_X3_factOfSet
set_option maxRecDepth 20000 in
theorem ggX3_digestOfSet_X1_readRuns : GoodIn wsX3_digestOfSet wsX1_readRuns := goodIn_r _ [22, 23, 24, 14, 15, 11, 16, 17, 25, 26, 27, 21, 28, 29, 30, 31, 32, 33, 34, 78, 79, 80, 77] (by decide +kernel) (by decide +kernel)
set_option maxRecDepth 20000 in
theorem gX3_digestOfSet_X1_readRuns : GoodIn wsX3_digestOfSet (wsV RX3 108 RX1 yX1_readRuns wsX1_readRuns) := goodIn_app (goodIn_of _ (by decide +kernel)) ggX3_digestOfSet_X1_readRuns
set_option maxRecDepth 20000 in
theorem ggX3_digestOfSet_X1_size : GoodIn wsX3_digestOfSet wsX1_size := goodIn_r _ [38, 23, 78, 79, 80] (by decide +kernel) (by decide +kernel)
set_option maxRecDepth 20000 in
theorem gX3_digestOfSet_X1_size : GoodIn wsX3_digestOfSet (wsV RX3 112 RX1 yX1_size wsX1_size) := goodIn_app (goodIn_of _ (by decide +kernel)) ggX3_digestOfSet_X1_size
set_option maxRecDepth 20000 in
theorem ggX3_digestOfSet_X1_fact : GoodIn wsX3_digestOfSet wsX1_fact := goodIn_r _ [54, 55, 56, 57, 21, 58, 23, 29, 59, 60, 61, 62, 34, 63, 6, 64, 78, 79, 80] (by decide +kernel) (by decide +kernel)
set_option maxRecDepth 20000 in
theorem gX3_digestOfSet_X1_fact : GoodIn wsX3_digestOfSet (wsV RX3 120 RX1 yX1_fact wsX1_fact) := goodIn_app (goodIn_of _ (by decide +kernel)) ggX3_digestOfSet_X1_fact
theorem dX3_digestOfSet_0 : decode cX3_digestOfSet 0 = .ok (.lload_n 1, 1) := by decide +kernel
theorem dX3_digestOfSet_1 : decode cX3_digestOfSet 1 = .ok (.lstore 4, 2) := by decide +kernel
theorem dX3_digestOfSet_3 : decode cX3_digestOfSet 3 = .ok (.iconst 0, 1) := by decide +kernel
theorem dX3_digestOfSet_4 : decode cX3_digestOfSet 4 = .ok (.istore 6, 2) := by decide +kernel
theorem dX3_digestOfSet_6 : decode cX3_digestOfSet 6 = .ok (.iload 6, 2) := by decide +kernel
theorem dX3_digestOfSet_8 : decode cX3_digestOfSet 8 = .ok (.iconst 5, 1) := by decide +kernel
theorem dX3_digestOfSet_9 : decode cX3_digestOfSet 9 = .ok (.if_icmp .gt 26, 3) := by decide +kernel
theorem dX3_digestOfSet_12 : decode cX3_digestOfSet 12 = .ok (.lload 4, 2) := by decide +kernel
theorem dX3_digestOfSet_14 : decode cX3_digestOfSet 14 = .ok (.ldc2_w 209, 3) := by decide +kernel
theorem dX3_digestOfSet_17 : decode cX3_digestOfSet 17 = .ok (.lmul, 1) := by decide +kernel
theorem dX3_digestOfSet_18 : decode cX3_digestOfSet 18 = .ok (.aload_n 0, 1) := by decide +kernel
theorem dX3_digestOfSet_19 : decode cX3_digestOfSet 19 = .ok (.aload_n 3, 1) := by decide +kernel
theorem dX3_digestOfSet_20 : decode cX3_digestOfSet 20 = .ok (.iload 6, 2) := by decide +kernel
theorem dX3_digestOfSet_22 : decode cX3_digestOfSet 22 = .ok (.invokevirtual 104, 3) := by decide +kernel
theorem dX3_digestOfSet_25 : decode cX3_digestOfSet 25 = .ok (.i2l, 1) := by decide +kernel
theorem dX3_digestOfSet_26 : decode cX3_digestOfSet 26 = .ok (.ladd, 1) := by decide +kernel
theorem dX3_digestOfSet_27 : decode cX3_digestOfSet 27 = .ok (.lstore 4, 2) := by decide +kernel
theorem dX3_digestOfSet_29 : decode cX3_digestOfSet 29 = .ok (.iinc 6 1, 3) := by decide +kernel
theorem dX3_digestOfSet_32 : decode cX3_digestOfSet 32 = .ok (.goto (-26), 3) := by decide +kernel
theorem dX3_digestOfSet_35 : decode cX3_digestOfSet 35 = .ok (.aload_n 0, 1) := by decide +kernel
theorem dX3_digestOfSet_36 : decode cX3_digestOfSet 36 = .ok (.getfield 34, 3) := by decide +kernel
theorem dX3_digestOfSet_39 : decode cX3_digestOfSet 39 = .ok (.aload_n 3, 1) := by decide +kernel
theorem dX3_digestOfSet_40 : decode cX3_digestOfSet 40 = .ok (.iconst 1, 1) := by decide +kernel
theorem dX3_digestOfSet_41 : decode cX3_digestOfSet 41 = .ok (.invokevirtual 108, 3) := by decide +kernel
theorem dX3_digestOfSet_44 : decode cX3_digestOfSet 44 = .ok (.iconst 0, 1) := by decide +kernel
theorem dX3_digestOfSet_45 : decode cX3_digestOfSet 45 = .ok (.istore 6, 2) := by decide +kernel
theorem dX3_digestOfSet_47 : decode cX3_digestOfSet 47 = .ok (.iload 6, 2) := by decide +kernel
theorem dX3_digestOfSet_49 : decode cX3_digestOfSet 49 = .ok (.aload_n 0, 1) := by decide +kernel
theorem dX3_digestOfSet_50 : decode cX3_digestOfSet 50 = .ok (.getfield 34, 3) := by decide +kernel
theorem dX3_digestOfSet_53 : decode cX3_digestOfSet 53 = .ok (.invokevirtual 112, 3) := by decide +kernel
theorem dX3_digestOfSet_56 : decode cX3_digestOfSet 56 = .ok (.if_icmp .ge 45, 3) := by decide +kernel
theorem dX3_digestOfSet_59 : decode cX3_digestOfSet 59 = .ok (.iconst 0, 1) := by decide +kernel
theorem dX3_digestOfSet_60 : decode cX3_digestOfSet 60 = .ok (.istore 7, 2) := by decide +kernel
theorem dX3_digestOfSet_62 : decode cX3_digestOfSet 62 = .ok (.iload 7, 2) := by decide +kernel
theorem dX3_digestOfSet_64 : decode cX3_digestOfSet 64 = .ok (.iconst 2, 1) := by decide +kernel
theorem dX3_digestOfSet_65 : decode cX3_digestOfSet 65 = .ok (.if_icmp .gt 30, 3) := by decide +kernel
theorem dX3_digestOfSet_68 : decode cX3_digestOfSet 68 = .ok (.lload 4, 2) := by decide +kernel
theorem dX3_digestOfSet_70 : decode cX3_digestOfSet 70 = .ok (.ldc2_w 209, 3) := by decide +kernel
theorem dX3_digestOfSet_73 : decode cX3_digestOfSet 73 = .ok (.lmul, 1) := by decide +kernel
theorem dX3_digestOfSet_74 : decode cX3_digestOfSet 74 = .ok (.aload_n 0, 1) := by decide +kernel
theorem dX3_digestOfSet_75 : decode cX3_digestOfSet 75 = .ok (.getfield 34, 3) := by decide +kernel
theorem dX3_digestOfSet_78 : decode cX3_digestOfSet 78 = .ok (.iload 6, 2) := by decide +kernel
theorem dX3_digestOfSet_80 : decode cX3_digestOfSet 80 = .ok (.iload 7, 2) := by decide +kernel
theorem dX3_digestOfSet_82 : decode cX3_digestOfSet 82 = .ok (.invokevirtual 120, 3) := by decide +kernel
theorem dX3_digestOfSet_85 : decode cX3_digestOfSet 85 = .ok (.i2l, 1) := by decide +kernel
theorem dX3_digestOfSet_86 : decode cX3_digestOfSet 86 = .ok (.ladd, 1) := by decide +kernel
theorem dX3_digestOfSet_87 : decode cX3_digestOfSet 87 = .ok (.lstore 4, 2) := by decide +kernel
theorem dX3_digestOfSet_89 : decode cX3_digestOfSet 89 = .ok (.iinc 7 1, 3) := by decide +kernel
theorem dX3_digestOfSet_92 : decode cX3_digestOfSet 92 = .ok (.goto (-30), 3) := by decide +kernel
theorem dX3_digestOfSet_95 : decode cX3_digestOfSet 95 = .ok (.iinc 6 1, 3) := by decide +kernel
theorem dX3_digestOfSet_98 : decode cX3_digestOfSet 98 = .ok (.goto (-51), 3) := by decide +kernel
theorem dX3_digestOfSet_101 : decode cX3_digestOfSet 101 = .ok (.lload 4, 2) := by decide +kernel
theorem dX3_digestOfSet_103 : decode cX3_digestOfSet 103 = .ok (.lreturn, 1) := by decide +kernel
set_option maxRecDepth 20000 in
theorem ggX3_digestOfFunction_X3_factOfFunction : GoodIn wsX3_digestOfFunction wsX3_factOfFunction := goodIn_r _ [5, 6, 7, 8, 9, 10, 11, 12, 13, 14, 15, 16, 17, 18, 19, 20, 21, 22, 23, 24, 25, 26, 27, 28, 29, 30, 31, 32, 33, 34, 35, 36, 4, 37, 38, 39] (by decide +kernel) (by decide +kernel)
set_option maxRecDepth 20000 in
theorem gX3_digestOfFunction_X3_factOfFunction : GoodIn wsX3_digestOfFunction (va_wsS RX3 167 yX3_factOfFunction wsX3_factOfFunction) := goodIn_app (goodIn_of _ (by decide +kernel)) ggX3_digestOfFunction_X3_factOfFunction
set_option maxRecDepth 20000 in
theorem ggX3_digestOfFunction_X2_at : GoodIn wsX3_digestOfFunction wsX2_at := goodIn_r _ [14, 15, 39] (by decide +kernel) (by decide +kernel)
set_option maxRecDepth 20000 in
theorem gX3_digestOfFunction_X2_at : GoodIn wsX3_digestOfFunction (wsV RX3 141 RX2 yX2_at wsX2_at) := goodIn_app (goodIn_of _ (by decide +kernel)) ggX3_digestOfFunction_X2_at
theorem dX3_digestOfFunction_0 : decode cX3_digestOfFunction 0 = .ok (.lload_n 0, 1) := by decide +kernel
theorem dX3_digestOfFunction_1 : decode cX3_digestOfFunction 1 = .ok (.lstore_n 3, 1) := by decide +kernel
theorem dX3_digestOfFunction_2 : decode cX3_digestOfFunction 2 = .ok (.iconst 0, 1) := by decide +kernel
theorem dX3_digestOfFunction_3 : decode cX3_digestOfFunction 3 = .ok (.istore 5, 2) := by decide +kernel
theorem dX3_digestOfFunction_5 : decode cX3_digestOfFunction 5 = .ok (.iload 5, 2) := by decide +kernel
theorem dX3_digestOfFunction_7 : decode cX3_digestOfFunction 7 = .ok (.iconst 4, 1) := by decide +kernel
theorem dX3_digestOfFunction_8 : decode cX3_digestOfFunction 8 = .ok (.if_icmp .gt 23, 3) := by decide +kernel
theorem dX3_digestOfFunction_11 : decode cX3_digestOfFunction 11 = .ok (.lload_n 3, 1) := by decide +kernel
theorem dX3_digestOfFunction_12 : decode cX3_digestOfFunction 12 = .ok (.ldc2_w 209, 3) := by decide +kernel
theorem dX3_digestOfFunction_15 : decode cX3_digestOfFunction 15 = .ok (.lmul, 1) := by decide +kernel
theorem dX3_digestOfFunction_16 : decode cX3_digestOfFunction 16 = .ok (.aload_n 2, 1) := by decide +kernel
theorem dX3_digestOfFunction_17 : decode cX3_digestOfFunction 17 = .ok (.iload 5, 2) := by decide +kernel
theorem dX3_digestOfFunction_19 : decode cX3_digestOfFunction 19 = .ok (.invokestatic 167, 3) := by decide +kernel
theorem dX3_digestOfFunction_22 : decode cX3_digestOfFunction 22 = .ok (.i2l, 1) := by decide +kernel
theorem dX3_digestOfFunction_23 : decode cX3_digestOfFunction 23 = .ok (.ladd, 1) := by decide +kernel
theorem dX3_digestOfFunction_24 : decode cX3_digestOfFunction 24 = .ok (.lstore_n 3, 1) := by decide +kernel
theorem dX3_digestOfFunction_25 : decode cX3_digestOfFunction 25 = .ok (.iinc 5 1, 3) := by decide +kernel
theorem dX3_digestOfFunction_28 : decode cX3_digestOfFunction 28 = .ok (.goto (-23), 3) := by decide +kernel
theorem dX3_digestOfFunction_31 : decode cX3_digestOfFunction 31 = .ok (.iconst 0, 1) := by decide +kernel
theorem dX3_digestOfFunction_32 : decode cX3_digestOfFunction 32 = .ok (.istore 5, 2) := by decide +kernel
theorem dX3_digestOfFunction_34 : decode cX3_digestOfFunction 34 = .ok (.iload 5, 2) := by decide +kernel
theorem dX3_digestOfFunction_36 : decode cX3_digestOfFunction 36 = .ok (.sipush 201, 3) := by decide +kernel
theorem dX3_digestOfFunction_39 : decode cX3_digestOfFunction 39 = .ok (.if_icmp .ge 23, 3) := by decide +kernel
theorem dX3_digestOfFunction_42 : decode cX3_digestOfFunction 42 = .ok (.lload_n 3, 1) := by decide +kernel
theorem dX3_digestOfFunction_43 : decode cX3_digestOfFunction 43 = .ok (.ldc2_w 209, 3) := by decide +kernel
theorem dX3_digestOfFunction_46 : decode cX3_digestOfFunction 46 = .ok (.lmul, 1) := by decide +kernel
theorem dX3_digestOfFunction_47 : decode cX3_digestOfFunction 47 = .ok (.aload_n 2, 1) := by decide +kernel
theorem dX3_digestOfFunction_48 : decode cX3_digestOfFunction 48 = .ok (.iload 5, 2) := by decide +kernel
theorem dX3_digestOfFunction_50 : decode cX3_digestOfFunction 50 = .ok (.invokevirtual 141, 3) := by decide +kernel
theorem dX3_digestOfFunction_53 : decode cX3_digestOfFunction 53 = .ok (.i2l, 1) := by decide +kernel
theorem dX3_digestOfFunction_54 : decode cX3_digestOfFunction 54 = .ok (.ladd, 1) := by decide +kernel
theorem dX3_digestOfFunction_55 : decode cX3_digestOfFunction 55 = .ok (.lstore_n 3, 1) := by decide +kernel
theorem dX3_digestOfFunction_56 : decode cX3_digestOfFunction 56 = .ok (.iinc 5 1, 3) := by decide +kernel
theorem dX3_digestOfFunction_59 : decode cX3_digestOfFunction 59 = .ok (.goto (-25), 3) := by decide +kernel
theorem dX3_digestOfFunction_62 : decode cX3_digestOfFunction 62 = .ok (.lload_n 3, 1) := by decide +kernel
theorem dX3_digestOfFunction_63 : decode cX3_digestOfFunction 63 = .ok (.lreturn, 1) := by decide +kernel
set_option maxRecDepth 20000 in
theorem ggX4_init_X3_init : GoodIn wsX4_init wsX3_init := goodIn_r _ [16, 17, 2, 3, 18, 19, 20, 21, 22, 23, 24, 25, 26, 27, 28, 29, 30, 31, 10, 32, 33, 34, 35, 36, 37, 38, 39, 40, 41, 42, 43, 44, 45, 46, 47, 48, 49, 50, 51, 52, 53, 59, 60, 61, 62, 63] (by decide +kernel) (by decide +kernel)
set_option maxRecDepth 20000 in
theorem gX4_init_X3_init : GoodIn wsX4_init (wsX3_init) := ggX4_init_X3_init
