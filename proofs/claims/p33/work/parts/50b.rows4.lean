theorem dX4_moved_0 : decode cX4_moved 0 = .ok (.iconst 0, 1) := by decide +kernel
theorem dX4_moved_1 : decode cX4_moved 1 = .ok (.anewarray 44, 3) := by decide +kernel
theorem dX4_moved_4 : decode cX4_moved 4 = .ok (.astore_n 2, 1) := by decide +kernel
theorem dX4_moved_5 : decode cX4_moved 5 = .ok (.aload_n 0, 1) := by decide +kernel
theorem dX4_moved_6 : decode cX4_moved 6 = .ok (.astore_n 3, 1) := by decide +kernel
theorem dX4_moved_7 : decode cX4_moved 7 = .ok (.aload_n 3, 1) := by decide +kernel
theorem dX4_moved_8 : decode cX4_moved 8 = .ok (.arraylength, 1) := by decide +kernel
theorem dX4_moved_9 : decode cX4_moved 9 = .ok (.istore 4, 2) := by decide +kernel
theorem dX4_moved_11 : decode cX4_moved 11 = .ok (.iconst 0, 1) := by decide +kernel
theorem dX4_moved_12 : decode cX4_moved 12 = .ok (.istore 5, 2) := by decide +kernel
theorem dX4_moved_14 : decode cX4_moved 14 = .ok (.iload 5, 2) := by decide +kernel
theorem dX4_moved_16 : decode cX4_moved 16 = .ok (.iload 4, 2) := by decide +kernel
theorem dX4_moved_18 : decode cX4_moved 18 = .ok (.if_icmp .ge 70, 3) := by decide +kernel
theorem dX4_moved_21 : decode cX4_moved 21 = .ok (.aload_n 3, 1) := by decide +kernel
theorem dX4_moved_22 : decode cX4_moved 22 = .ok (.iload 5, 2) := by decide +kernel
theorem dX4_moved_24 : decode cX4_moved 24 = .ok (.aaload, 1) := by decide +kernel
theorem dX4_moved_25 : decode cX4_moved 25 = .ok (.astore 6, 2) := by decide +kernel
theorem dX4_moved_27 : decode cX4_moved 27 = .ok (.iconst 2, 1) := by decide +kernel
theorem dX4_moved_28 : decode cX4_moved 28 = .ok (.newarray .int, 2) := by decide +kernel
theorem dX4_moved_30 : decode cX4_moved 30 = .ok (.dup, 1) := by decide +kernel
theorem dX4_moved_31 : decode cX4_moved 31 = .ok (.iconst 0, 1) := by decide +kernel
theorem dX4_moved_32 : decode cX4_moved 32 = .ok (.iconst 0, 1) := by decide +kernel
theorem dX4_moved_33 : decode cX4_moved 33 = .ok (.aload 6, 2) := by decide +kernel
theorem dX4_moved_35 : decode cX4_moved 35 = .ok (.iconst 0, 1) := by decide +kernel
theorem dX4_moved_36 : decode cX4_moved 36 = .ok (.iaload, 1) := by decide +kernel
theorem dX4_moved_37 : decode cX4_moved 37 = .ok (.iconst 2, 1) := by decide +kernel
theorem dX4_moved_38 : decode cX4_moved 38 = .ok (.iload_n 1, 1) := by decide +kernel
theorem dX4_moved_39 : decode cX4_moved 39 = .ok (.imul, 1) := by decide +kernel
theorem dX4_moved_40 : decode cX4_moved 40 = .ok (.iadd, 1) := by decide +kernel
theorem dX4_moved_41 : decode cX4_moved 41 = .ok (.invokestatic 71, 3) := by decide +kernel
theorem dX4_moved_44 : decode cX4_moved 44 = .ok (.iastore, 1) := by decide +kernel
theorem dX4_moved_45 : decode cX4_moved 45 = .ok (.dup, 1) := by decide +kernel
theorem dX4_moved_46 : decode cX4_moved 46 = .ok (.iconst 1, 1) := by decide +kernel
theorem dX4_moved_47 : decode cX4_moved 47 = .ok (.sipush 200, 3) := by decide +kernel
theorem dX4_moved_50 : decode cX4_moved 50 = .ok (.aload 6, 2) := by decide +kernel
theorem dX4_moved_52 : decode cX4_moved 52 = .ok (.iconst 1, 1) := by decide +kernel
theorem dX4_moved_53 : decode cX4_moved 53 = .ok (.iaload, 1) := by decide +kernel
theorem dX4_moved_54 : decode cX4_moved 54 = .ok (.iconst 2, 1) := by decide +kernel
theorem dX4_moved_55 : decode cX4_moved 55 = .ok (.iload_n 1, 1) := by decide +kernel
theorem dX4_moved_56 : decode cX4_moved 56 = .ok (.imul, 1) := by decide +kernel
theorem dX4_moved_57 : decode cX4_moved 57 = .ok (.iadd, 1) := by decide +kernel
theorem dX4_moved_58 : decode cX4_moved 58 = .ok (.invokestatic 66, 3) := by decide +kernel
theorem dX4_moved_61 : decode cX4_moved 61 = .ok (.iastore, 1) := by decide +kernel
theorem dX4_moved_62 : decode cX4_moved 62 = .ok (.astore 7, 2) := by decide +kernel
theorem dX4_moved_64 : decode cX4_moved 64 = .ok (.aload 7, 2) := by decide +kernel
theorem dX4_moved_66 : decode cX4_moved 66 = .ok (.iconst 0, 1) := by decide +kernel
theorem dX4_moved_67 : decode cX4_moved 67 = .ok (.iaload, 1) := by decide +kernel
theorem dX4_moved_68 : decode cX4_moved 68 = .ok (.aload 7, 2) := by decide +kernel
theorem dX4_moved_70 : decode cX4_moved 70 = .ok (.iconst 1, 1) := by decide +kernel
theorem dX4_moved_71 : decode cX4_moved 71 = .ok (.iaload, 1) := by decide +kernel
theorem dX4_moved_72 : decode cX4_moved 72 = .ok (.if_icmp .gt 10, 3) := by decide +kernel
theorem dX4_moved_75 : decode cX4_moved 75 = .ok (.aload_n 2, 1) := by decide +kernel
theorem dX4_moved_76 : decode cX4_moved 76 = .ok (.aload 7, 2) := by decide +kernel
theorem dX4_moved_78 : decode cX4_moved 78 = .ok (.invokestatic 51, 3) := by decide +kernel
theorem dX4_moved_81 : decode cX4_moved 81 = .ok (.astore_n 2, 1) := by decide +kernel
theorem dX4_moved_82 : decode cX4_moved 82 = .ok (.iinc 5 1, 3) := by decide +kernel
theorem dX4_moved_85 : decode cX4_moved 85 = .ok (.goto (-71), 3) := by decide +kernel
theorem dX4_moved_88 : decode cX4_moved 88 = .ok (.aload_n 2, 1) := by decide +kernel
theorem dX4_moved_89 : decode cX4_moved 89 = .ok (.areturn, 1) := by decide +kernel
set_option maxRecDepth 20000 in
theorem ggX4_move_X4_draw : GoodIn wsX4_move wsX4_draw := goodIn_r _ [7, 8, 9, 10, 11, 12, 13, 14, 15, 16, 81, 82, 83, 84, 85] (by decide +kernel) (by decide +kernel)
set_option maxRecDepth 20000 in
theorem gX4_move_X4_draw : GoodIn wsX4_move (wsV RX4 62 RX4 yX4_draw wsX4_draw) := goodIn_app (goodIn_of _ (by decide +kernel)) ggX4_move_X4_draw
set_option maxRecDepth 20000 in
theorem ggX4_move_X4_moved : GoodIn wsX4_move wsX4_moved := goodIn_r _ [19, 20, 21, 22, 23, 24, 25, 26, 27, 28, 29, 30, 6, 31, 32, 33, 34, 35] (by decide +kernel) (by decide +kernel)
set_option maxRecDepth 20000 in
theorem gX4_move_X4_moved : GoodIn wsX4_move (va_wsS RX4 109 yX4_moved wsX4_moved) := goodIn_app (goodIn_of _ (by decide +kernel)) ggX4_move_X4_moved
set_option maxRecDepth 20000 in
theorem ggX4_move_X3_move : GoodIn wsX4_move wsX3_move := goodIn_ca (goodIn_ca (goodIn_r _ [40, 41, 42, 43, 44, 39, 45, 46, 47, 48, 49, 50, 51, 52, 53, 54, 55, 56, 57, 58, 59, 60, 61, 62, 63, 64, 65, 66, 67, 68, 69, 70, 71, 72, 73, 74, 75, 76, 77, 86, 87, 88, 89, 90, 91, 92] (by decide +kernel) (by decide +kernel)) (goodIn_sub (fun _ h => List.mem_cons_of_mem _ (List.mem_append_left _ (List.mem_append_right _ h))) (by decide +kernel))) (goodIn_sub (fun _ h => List.mem_cons_of_mem _ (List.mem_append_right _ h)) (by decide +kernel))
set_option maxRecDepth 20000 in
theorem gX4_move_X3_move : GoodIn wsX4_move (wsV RX4 113 RX3 yX3_move wsX3_move) := goodIn_app (goodIn_of _ (by decide +kernel)) ggX4_move_X3_move
set_option maxRecDepth 20000 in
theorem ggX4_move_X4_count : GoodIn wsX4_move wsX4_count := goodIn_r _ [80] (by decide +kernel) (by decide +kernel)
set_option maxRecDepth 20000 in
theorem gX4_move_X4_count : GoodIn wsX4_move (va_wsS RX4 98 yX4_count wsX4_count) := goodIn_app (goodIn_of _ (by decide +kernel)) ggX4_move_X4_count
theorem dX4_move_0 : decode cX4_move 0 = .ok (.aload_n 0, 1) := by decide +kernel
theorem dX4_move_1 : decode cX4_move 1 = .ok (.bipush 8, 2) := by decide +kernel
theorem dX4_move_3 : decode cX4_move 3 = .ok (.invokevirtual 62, 3) := by decide +kernel
theorem dX4_move_6 : decode cX4_move 6 = .ok (.istore_n 1, 1) := by decide +kernel
theorem dX4_move_7 : decode cX4_move 7 = .ok (.aload_n 0, 1) := by decide +kernel
theorem dX4_move_8 : decode cX4_move 8 = .ok (.iconst 2, 1) := by decide +kernel
theorem dX4_move_9 : decode cX4_move 9 = .ok (.invokevirtual 62, 3) := by decide +kernel
theorem dX4_move_12 : decode cX4_move 12 = .ok (.ifCond .ne 15, 3) := by decide +kernel
theorem dX4_move_15 : decode cX4_move 15 = .ok (.aload_n 0, 1) := by decide +kernel
theorem dX4_move_16 : decode cX4_move 16 = .ok (.bipush 41, 2) := by decide +kernel
theorem dX4_move_18 : decode cX4_move 18 = .ok (.invokevirtual 62, 3) := by decide +kernel
theorem dX4_move_21 : decode cX4_move 21 = .ok (.bipush 20, 2) := by decide +kernel
theorem dX4_move_23 : decode cX4_move 23 = .ok (.isub, 1) := by decide +kernel
theorem dX4_move_24 : decode cX4_move 24 = .ok (.goto 13, 3) := by decide +kernel
theorem dX4_move_27 : decode cX4_move 27 = .ok (.aload_n 0, 1) := by decide +kernel
theorem dX4_move_28 : decode cX4_move 28 = .ok (.sipush 201, 3) := by decide +kernel
theorem dX4_move_31 : decode cX4_move 31 = .ok (.invokevirtual 62, 3) := by decide +kernel
theorem dX4_move_34 : decode cX4_move 34 = .ok (.bipush 100, 2) := by decide +kernel
theorem dX4_move_36 : decode cX4_move 36 = .ok (.isub, 1) := by decide +kernel
theorem dX4_move_37 : decode cX4_move 37 = .ok (.istore_n 2, 1) := by decide +kernel
theorem dX4_move_38 : decode cX4_move 38 = .ok (.aload_n 0, 1) := by decide +kernel
theorem dX4_move_39 : decode cX4_move 39 = .ok (.getfield 18, 3) := by decide +kernel
theorem dX4_move_42 : decode cX4_move 42 = .ok (.iload_n 1, 1) := by decide +kernel
theorem dX4_move_43 : decode cX4_move 43 = .ok (.aload_n 0, 1) := by decide +kernel
theorem dX4_move_44 : decode cX4_move 44 = .ok (.getfield 18, 3) := by decide +kernel
theorem dX4_move_47 : decode cX4_move 47 = .ok (.iload_n 1, 1) := by decide +kernel
theorem dX4_move_48 : decode cX4_move 48 = .ok (.aaload, 1) := by decide +kernel
theorem dX4_move_49 : decode cX4_move 49 = .ok (.iload_n 2, 1) := by decide +kernel
theorem dX4_move_50 : decode cX4_move 50 = .ok (.invokestatic 109, 3) := by decide +kernel
theorem dX4_move_53 : decode cX4_move 53 = .ok (.aastore, 1) := by decide +kernel
theorem dX4_move_54 : decode cX4_move 54 = .ok (.aload_n 0, 1) := by decide +kernel
theorem dX4_move_55 : decode cX4_move 55 = .ok (.getfield 10, 3) := by decide +kernel
theorem dX4_move_58 : decode cX4_move 58 = .ok (.iload_n 1, 1) := by decide +kernel
theorem dX4_move_59 : decode cX4_move 59 = .ok (.iload_n 2, 1) := by decide +kernel
theorem dX4_move_60 : decode cX4_move 60 = .ok (.invokevirtual 113, 3) := by decide +kernel
theorem dX4_move_63 : decode cX4_move 63 = .ok (.aload_n 0, 1) := by decide +kernel
theorem dX4_move_64 : decode cX4_move 64 = .ok (.getfield 18, 3) := by decide +kernel
theorem dX4_move_67 : decode cX4_move 67 = .ok (.iload_n 1, 1) := by decide +kernel
theorem dX4_move_68 : decode cX4_move 68 = .ok (.aaload, 1) := by decide +kernel
theorem dX4_move_69 : decode cX4_move 69 = .ok (.invokestatic 98, 3) := by decide +kernel
theorem dX4_move_72 : decode cX4_move 72 = .ok (.if_icmp .ne 7, 3) := by decide +kernel
theorem dX4_move_75 : decode cX4_move 75 = .ok (.iconst 1, 1) := by decide +kernel
theorem dX4_move_76 : decode cX4_move 76 = .ok (.goto 4, 3) := by decide +kernel
theorem dX4_move_79 : decode cX4_move 79 = .ok (.iconst 0, 1) := by decide +kernel
theorem dX4_move_80 : decode cX4_move 80 = .ok (.ireturn, 1) := by decide +kernel
set_option maxRecDepth 20000 in
theorem ggX4_stretch_X4_draw : GoodIn wsX4_stretch wsX4_draw := goodIn_r _ [13, 14, 15, 16, 17, 18, 19, 20, 21, 22, 85, 86, 87, 88, 89] (by decide +kernel) (by decide +kernel)
set_option maxRecDepth 20000 in
theorem gX4_stretch_X4_draw : GoodIn wsX4_stretch (wsV RX4 62 RX4 yX4_draw wsX4_draw) := goodIn_app (goodIn_of _ (by decide +kernel)) ggX4_stretch_X4_draw
set_option maxRecDepth 20000 in
theorem ggX4_stretch_X4_with : GoodIn wsX4_stretch wsX4_with := goodIn_r _ [25, 1, 26, 27, 28, 29] (by decide +kernel) (by decide +kernel)
set_option maxRecDepth 20000 in
theorem gX4_stretch_X4_with : GoodIn wsX4_stretch (va_wsS RX4 51 yX4_with wsX4_with) := goodIn_app (goodIn_of _ (by decide +kernel)) ggX4_stretch_X4_with
set_option maxRecDepth 20000 in
theorem ggX4_stretch_X3_stretch : GoodIn wsX4_stretch wsX3_stretch := goodIn_ca (goodIn_ca (goodIn_r _ [34, 35, 36, 37, 38, 39, 40, 33, 41, 42, 43, 44, 45, 46, 47, 48, 49, 50, 51, 52, 53, 54, 55, 56, 57, 58, 59, 60, 61, 62, 63, 64, 65, 66, 67, 68, 6, 69, 70, 71, 72, 73, 74, 75, 76, 77, 78, 79, 80, 81, 90, 91, 92, 93, 94, 95, 96] (by decide +kernel) (by decide +kernel)) (goodIn_sub (fun _ h => List.mem_cons_of_mem _ (List.mem_append_left _ (List.mem_append_right _ h))) (by decide +kernel))) (goodIn_sub (fun _ h => List.mem_cons_of_mem _ (List.mem_append_right _ h)) (by decide +kernel))
set_option maxRecDepth 20000 in
theorem gX4_stretch_X3_stretch : GoodIn wsX4_stretch (wsV RX4 116 RX3 yX3_stretch wsX3_stretch) := goodIn_app (goodIn_of _ (by decide +kernel)) ggX4_stretch_X3_stretch
set_option maxRecDepth 20000 in
theorem ggX4_stretch_X4_count : GoodIn wsX4_stretch wsX4_count := goodIn_r _ [84] (by decide +kernel) (by decide +kernel)
set_option maxRecDepth 20000 in
theorem gX4_stretch_X4_count : GoodIn wsX4_stretch (va_wsS RX4 98 yX4_count wsX4_count) := goodIn_app (goodIn_of _ (by decide +kernel)) ggX4_stretch_X4_count
theorem dX4_stretch_0 : decode cX4_stretch 0 = .ok (.aload_n 0, 1) := by decide +kernel
theorem dX4_stretch_1 : decode cX4_stretch 1 = .ok (.bipush 8, 2) := by decide +kernel
theorem dX4_stretch_3 : decode cX4_stretch 3 = .ok (.invokevirtual 62, 3) := by decide +kernel
theorem dX4_stretch_6 : decode cX4_stretch 6 = .ok (.istore_n 1, 1) := by decide +kernel
theorem dX4_stretch_7 : decode cX4_stretch 7 = .ok (.iconst 2, 1) := by decide +kernel
theorem dX4_stretch_8 : decode cX4_stretch 8 = .ok (.aload_n 0, 1) := by decide +kernel
theorem dX4_stretch_9 : decode cX4_stretch 9 = .ok (.aload_n 0, 1) := by decide +kernel
theorem dX4_stretch_10 : decode cX4_stretch 10 = .ok (.iconst 3, 1) := by decide +kernel
theorem dX4_stretch_11 : decode cX4_stretch 11 = .ok (.invokevirtual 62, 3) := by decide +kernel
theorem dX4_stretch_14 : decode cX4_stretch 14 = .ok (.ifCond .ne 8, 3) := by decide +kernel
theorem dX4_stretch_17 : decode cX4_stretch 17 = .ok (.bipush 9, 2) := by decide +kernel
theorem dX4_stretch_19 : decode cX4_stretch 19 = .ok (.goto 4, 3) := by decide +kernel
theorem dX4_stretch_22 : decode cX4_stretch 22 = .ok (.iconst 2, 1) := by decide +kernel
theorem dX4_stretch_23 : decode cX4_stretch 23 = .ok (.invokevirtual 62, 3) := by decide +kernel
theorem dX4_stretch_26 : decode cX4_stretch 26 = .ok (.iadd, 1) := by decide +kernel
theorem dX4_stretch_27 : decode cX4_stretch 27 = .ok (.istore_n 2, 1) := by decide +kernel
theorem dX4_stretch_28 : decode cX4_stretch 28 = .ok (.iconst 0, 1) := by decide +kernel
theorem dX4_stretch_29 : decode cX4_stretch 29 = .ok (.anewarray 44, 3) := by decide +kernel
theorem dX4_stretch_32 : decode cX4_stretch 32 = .ok (.astore_n 3, 1) := by decide +kernel
theorem dX4_stretch_33 : decode cX4_stretch 33 = .ok (.aload_n 0, 1) := by decide +kernel
theorem dX4_stretch_34 : decode cX4_stretch 34 = .ok (.getfield 18, 3) := by decide +kernel
theorem dX4_stretch_37 : decode cX4_stretch 37 = .ok (.iload_n 1, 1) := by decide +kernel
theorem dX4_stretch_38 : decode cX4_stretch 38 = .ok (.aaload, 1) := by decide +kernel
theorem dX4_stretch_39 : decode cX4_stretch 39 = .ok (.astore 4, 2) := by decide +kernel
theorem dX4_stretch_41 : decode cX4_stretch 41 = .ok (.aload 4, 2) := by decide +kernel
theorem dX4_stretch_43 : decode cX4_stretch 43 = .ok (.arraylength, 1) := by decide +kernel
theorem dX4_stretch_44 : decode cX4_stretch 44 = .ok (.istore 5, 2) := by decide +kernel
theorem dX4_stretch_46 : decode cX4_stretch 46 = .ok (.iconst 0, 1) := by decide +kernel
theorem dX4_stretch_47 : decode cX4_stretch 47 = .ok (.istore 6, 2) := by decide +kernel
theorem dX4_stretch_49 : decode cX4_stretch 49 = .ok (.iload 6, 2) := by decide +kernel
theorem dX4_stretch_51 : decode cX4_stretch 51 = .ok (.iload 5, 2) := by decide +kernel
theorem dX4_stretch_53 : decode cX4_stretch 53 = .ok (.if_icmp .ge 112, 3) := by decide +kernel
theorem dX4_stretch_56 : decode cX4_stretch 56 = .ok (.aload 4, 2) := by decide +kernel
theorem dX4_stretch_58 : decode cX4_stretch 58 = .ok (.iload 6, 2) := by decide +kernel
theorem dX4_stretch_60 : decode cX4_stretch 60 = .ok (.aaload, 1) := by decide +kernel
theorem dX4_stretch_61 : decode cX4_stretch 61 = .ok (.astore 7, 2) := by decide +kernel
theorem dX4_stretch_63 : decode cX4_stretch 63 = .ok (.aload 7, 2) := by decide +kernel
theorem dX4_stretch_65 : decode cX4_stretch 65 = .ok (.iconst 0, 1) := by decide +kernel
theorem dX4_stretch_66 : decode cX4_stretch 66 = .ok (.iaload, 1) := by decide +kernel
theorem dX4_stretch_67 : decode cX4_stretch 67 = .ok (.iconst 2, 1) := by decide +kernel
theorem dX4_stretch_68 : decode cX4_stretch 68 = .ok (.irem, 1) := by decide +kernel
theorem dX4_stretch_69 : decode cX4_stretch 69 = .ok (.ifCond .ne 12, 3) := by decide +kernel
theorem dX4_stretch_72 : decode cX4_stretch 72 = .ok (.aload 7, 2) := by decide +kernel
theorem dX4_stretch_74 : decode cX4_stretch 74 = .ok (.iconst 0, 1) := by decide +kernel
theorem dX4_stretch_75 : decode cX4_stretch 75 = .ok (.iaload, 1) := by decide +kernel
theorem dX4_stretch_76 : decode cX4_stretch 76 = .ok (.iload_n 2, 1) := by decide +kernel
theorem dX4_stretch_77 : decode cX4_stretch 77 = .ok (.imul, 1) := by decide +kernel
theorem dX4_stretch_78 : decode cX4_stretch 78 = .ok (.goto 13, 3) := by decide +kernel
theorem dX4_stretch_81 : decode cX4_stretch 81 = .ok (.aload 7, 2) := by decide +kernel
theorem dX4_stretch_83 : decode cX4_stretch 83 = .ok (.iconst 0, 1) := by decide +kernel
theorem dX4_stretch_84 : decode cX4_stretch 84 = .ok (.iaload, 1) := by decide +kernel
theorem dX4_stretch_85 : decode cX4_stretch 85 = .ok (.iconst 1, 1) := by decide +kernel
theorem dX4_stretch_86 : decode cX4_stretch 86 = .ok (.isub, 1) := by decide +kernel
theorem dX4_stretch_87 : decode cX4_stretch 87 = .ok (.iload_n 2, 1) := by decide +kernel
theorem dX4_stretch_88 : decode cX4_stretch 88 = .ok (.imul, 1) := by decide +kernel
theorem dX4_stretch_89 : decode cX4_stretch 89 = .ok (.iconst 1, 1) := by decide +kernel
theorem dX4_stretch_90 : decode cX4_stretch 90 = .ok (.iadd, 1) := by decide +kernel
theorem dX4_stretch_91 : decode cX4_stretch 91 = .ok (.istore 8, 2) := by decide +kernel
theorem dX4_stretch_93 : decode cX4_stretch 93 = .ok (.aload 7, 2) := by decide +kernel
theorem dX4_stretch_95 : decode cX4_stretch 95 = .ok (.iconst 1, 1) := by decide +kernel
theorem dX4_stretch_96 : decode cX4_stretch 96 = .ok (.iaload, 1) := by decide +kernel
theorem dX4_stretch_97 : decode cX4_stretch 97 = .ok (.iconst 2, 1) := by decide +kernel
theorem dX4_stretch_98 : decode cX4_stretch 98 = .ok (.irem, 1) := by decide +kernel
theorem dX4_stretch_99 : decode cX4_stretch 99 = .ok (.ifCond .ne 12, 3) := by decide +kernel
theorem dX4_stretch_102 : decode cX4_stretch 102 = .ok (.aload 7, 2) := by decide +kernel
theorem dX4_stretch_104 : decode cX4_stretch 104 = .ok (.iconst 1, 1) := by decide +kernel
theorem dX4_stretch_105 : decode cX4_stretch 105 = .ok (.iaload, 1) := by decide +kernel
theorem dX4_stretch_106 : decode cX4_stretch 106 = .ok (.iload_n 2, 1) := by decide +kernel
theorem dX4_stretch_107 : decode cX4_stretch 107 = .ok (.imul, 1) := by decide +kernel
theorem dX4_stretch_108 : decode cX4_stretch 108 = .ok (.goto 13, 3) := by decide +kernel
theorem dX4_stretch_111 : decode cX4_stretch 111 = .ok (.aload 7, 2) := by decide +kernel
theorem dX4_stretch_113 : decode cX4_stretch 113 = .ok (.iconst 1, 1) := by decide +kernel
theorem dX4_stretch_114 : decode cX4_stretch 114 = .ok (.iaload, 1) := by decide +kernel
theorem dX4_stretch_115 : decode cX4_stretch 115 = .ok (.iconst 1, 1) := by decide +kernel
theorem dX4_stretch_116 : decode cX4_stretch 116 = .ok (.iadd, 1) := by decide +kernel
theorem dX4_stretch_117 : decode cX4_stretch 117 = .ok (.iload_n 2, 1) := by decide +kernel
theorem dX4_stretch_118 : decode cX4_stretch 118 = .ok (.imul, 1) := by decide +kernel
theorem dX4_stretch_119 : decode cX4_stretch 119 = .ok (.iconst 1, 1) := by decide +kernel
theorem dX4_stretch_120 : decode cX4_stretch 120 = .ok (.isub, 1) := by decide +kernel
theorem dX4_stretch_121 : decode cX4_stretch 121 = .ok (.istore 9, 2) := by decide +kernel
theorem dX4_stretch_123 : decode cX4_stretch 123 = .ok (.iconst 2, 1) := by decide +kernel
theorem dX4_stretch_124 : decode cX4_stretch 124 = .ok (.newarray .int, 2) := by decide +kernel
theorem dX4_stretch_126 : decode cX4_stretch 126 = .ok (.dup, 1) := by decide +kernel
theorem dX4_stretch_127 : decode cX4_stretch 127 = .ok (.iconst 0, 1) := by decide +kernel
theorem dX4_stretch_128 : decode cX4_stretch 128 = .ok (.iload 8, 2) := by decide +kernel
theorem dX4_stretch_130 : decode cX4_stretch 130 = .ok (.iastore, 1) := by decide +kernel
theorem dX4_stretch_131 : decode cX4_stretch 131 = .ok (.dup, 1) := by decide +kernel
theorem dX4_stretch_132 : decode cX4_stretch 132 = .ok (.iconst 1, 1) := by decide +kernel
theorem dX4_stretch_133 : decode cX4_stretch 133 = .ok (.sipush 200, 3) := by decide +kernel
theorem dX4_stretch_136 : decode cX4_stretch 136 = .ok (.iload 9, 2) := by decide +kernel
theorem dX4_stretch_138 : decode cX4_stretch 138 = .ok (.invokestatic 66, 3) := by decide +kernel
theorem dX4_stretch_141 : decode cX4_stretch 141 = .ok (.iastore, 1) := by decide +kernel
theorem dX4_stretch_142 : decode cX4_stretch 142 = .ok (.astore 10, 2) := by decide +kernel
theorem dX4_stretch_144 : decode cX4_stretch 144 = .ok (.iload 8, 2) := by decide +kernel
theorem dX4_stretch_146 : decode cX4_stretch 146 = .ok (.sipush 200, 3) := by decide +kernel
theorem dX4_stretch_149 : decode cX4_stretch 149 = .ok (.if_icmp .gt 10, 3) := by decide +kernel
theorem dX4_stretch_152 : decode cX4_stretch 152 = .ok (.aload_n 3, 1) := by decide +kernel
theorem dX4_stretch_153 : decode cX4_stretch 153 = .ok (.aload 10, 2) := by decide +kernel
theorem dX4_stretch_155 : decode cX4_stretch 155 = .ok (.invokestatic 51, 3) := by decide +kernel
theorem dX4_stretch_158 : decode cX4_stretch 158 = .ok (.astore_n 3, 1) := by decide +kernel
theorem dX4_stretch_159 : decode cX4_stretch 159 = .ok (.iinc 6 1, 3) := by decide +kernel
theorem dX4_stretch_162 : decode cX4_stretch 162 = .ok (.goto (-113), 3) := by decide +kernel
theorem dX4_stretch_165 : decode cX4_stretch 165 = .ok (.aload_n 0, 1) := by decide +kernel
theorem dX4_stretch_166 : decode cX4_stretch 166 = .ok (.getfield 18, 3) := by decide +kernel
theorem dX4_stretch_169 : decode cX4_stretch 169 = .ok (.iload_n 1, 1) := by decide +kernel
theorem dX4_stretch_170 : decode cX4_stretch 170 = .ok (.aload_n 3, 1) := by decide +kernel
theorem dX4_stretch_171 : decode cX4_stretch 171 = .ok (.aastore, 1) := by decide +kernel
theorem dX4_stretch_172 : decode cX4_stretch 172 = .ok (.aload_n 0, 1) := by decide +kernel
theorem dX4_stretch_173 : decode cX4_stretch 173 = .ok (.getfield 10, 3) := by decide +kernel
theorem dX4_stretch_176 : decode cX4_stretch 176 = .ok (.iload_n 1, 1) := by decide +kernel
theorem dX4_stretch_177 : decode cX4_stretch 177 = .ok (.iload_n 2, 1) := by decide +kernel
theorem dX4_stretch_178 : decode cX4_stretch 178 = .ok (.invokevirtual 116, 3) := by decide +kernel
theorem dX4_stretch_181 : decode cX4_stretch 181 = .ok (.aload_n 3, 1) := by decide +kernel
theorem dX4_stretch_182 : decode cX4_stretch 182 = .ok (.invokestatic 98, 3) := by decide +kernel
theorem dX4_stretch_185 : decode cX4_stretch 185 = .ok (.if_icmp .ne 7, 3) := by decide +kernel
theorem dX4_stretch_188 : decode cX4_stretch 188 = .ok (.iconst 1, 1) := by decide +kernel
theorem dX4_stretch_189 : decode cX4_stretch 189 = .ok (.goto 4, 3) := by decide +kernel
theorem dX4_stretch_192 : decode cX4_stretch 192 = .ok (.iconst 0, 1) := by decide +kernel
theorem dX4_stretch_193 : decode cX4_stretch 193 = .ok (.ireturn, 1) := by decide +kernel
theorem dX4_steps_0 : decode cX4_steps 0 = .ok (.iconst 1, 1) := by decide +kernel
theorem dX4_steps_1 : decode cX4_steps 1 = .ok (.istore_n 1, 1) := by decide +kernel
theorem dX4_steps_2 : decode cX4_steps 2 = .ok (.sipush 200, 3) := by decide +kernel
theorem dX4_steps_5 : decode cX4_steps 5 = .ok (.istore_n 2, 1) := by decide +kernel
theorem dX4_steps_6 : decode cX4_steps 6 = .ok (.iload_n 2, 1) := by decide +kernel
theorem dX4_steps_7 : decode cX4_steps 7 = .ok (.ifCond .le 23, 3) := by decide +kernel
theorem dX4_steps_10 : decode cX4_steps 10 = .ok (.aload_n 0, 1) := by decide +kernel
theorem dX4_steps_11 : decode cX4_steps 11 = .ok (.iload_n 2, 1) := by decide +kernel
theorem dX4_steps_12 : decode cX4_steps 12 = .ok (.iaload, 1) := by decide +kernel
theorem dX4_steps_13 : decode cX4_steps 13 = .ok (.aload_n 0, 1) := by decide +kernel
theorem dX4_steps_14 : decode cX4_steps 14 = .ok (.iload_n 2, 1) := by decide +kernel
theorem dX4_steps_15 : decode cX4_steps 15 = .ok (.iconst 1, 1) := by decide +kernel
theorem dX4_steps_16 : decode cX4_steps 16 = .ok (.isub, 1) := by decide +kernel
theorem dX4_steps_17 : decode cX4_steps 17 = .ok (.iaload, 1) := by decide +kernel
theorem dX4_steps_18 : decode cX4_steps 18 = .ok (.if_icmp .eq 6, 3) := by decide +kernel
theorem dX4_steps_21 : decode cX4_steps 21 = .ok (.iinc 1 1, 3) := by decide +kernel
theorem dX4_steps_24 : decode cX4_steps 24 = .ok (.iinc 2 (-1), 3) := by decide +kernel
theorem dX4_steps_27 : decode cX4_steps 27 = .ok (.goto (-21), 3) := by decide +kernel
theorem dX4_steps_30 : decode cX4_steps 30 = .ok (.iload_n 1, 1) := by decide +kernel
theorem dX4_steps_31 : decode cX4_steps 31 = .ok (.ireturn, 1) := by decide +kernel
theorem dX4_kept_0 : decode cX4_kept 0 = .ok (.iload_n 0, 1) := by decide +kernel
theorem dX4_kept_1 : decode cX4_kept 1 = .ok (.sipush 10000, 3) := by decide +kernel
theorem dX4_kept_4 : decode cX4_kept 4 = .ok (.if_icmp .le 9, 3) := by decide +kernel
theorem dX4_kept_7 : decode cX4_kept 7 = .ok (.sipush 10000, 3) := by decide +kernel
theorem dX4_kept_10 : decode cX4_kept 10 = .ok (.goto 17, 3) := by decide +kernel
theorem dX4_kept_13 : decode cX4_kept 13 = .ok (.iload_n 0, 1) := by decide +kernel
theorem dX4_kept_14 : decode cX4_kept 14 = .ok (.sipush (-10000), 3) := by decide +kernel
theorem dX4_kept_17 : decode cX4_kept 17 = .ok (.if_icmp .ge 9, 3) := by decide +kernel
theorem dX4_kept_20 : decode cX4_kept 20 = .ok (.sipush (-10000), 3) := by decide +kernel
theorem dX4_kept_23 : decode cX4_kept 23 = .ok (.goto 4, 3) := by decide +kernel
theorem dX4_kept_26 : decode cX4_kept 26 = .ok (.iload_n 0, 1) := by decide +kernel
theorem dX4_kept_27 : decode cX4_kept 27 = .ok (.ireturn, 1) := by decide +kernel
set_option maxRecDepth 20000 in
theorem ggX4_raise_X4_draw : GoodIn wsX4_raise wsX4_draw := goodIn_r _ [7, 8, 9, 10, 11, 12, 13, 14, 15, 16, 78, 79, 80, 81, 82] (by decide +kernel) (by decide +kernel)
set_option maxRecDepth 20000 in
theorem gX4_raise_X4_draw : GoodIn wsX4_raise (wsV RX4 62 RX4 yX4_draw wsX4_draw) := goodIn_app (goodIn_of _ (by decide +kernel)) ggX4_raise_X4_draw
set_option maxRecDepth 20000 in
theorem ggX4_raise_X4_any : GoodIn wsX4_raise wsX4_any := goodIn_r _ [20, 21, 22, 23, 24, 25, 26, 27, 28, 3, 4, 5, 6, 7, 8, 9, 10, 11, 12, 13, 14, 15, 16, 78, 79, 80, 81, 82] (by decide +kernel) (by decide +kernel)
set_option maxRecDepth 20000 in
theorem gX4_raise_X4_any : GoodIn wsX4_raise (wsV RX4 74 RX4 yX4_any wsX4_any) := goodIn_app (goodIn_of _ (by decide +kernel)) ggX4_raise_X4_any
set_option maxRecDepth 20000 in
theorem ggX4_raise_X4_kept : GoodIn wsX4_raise wsX4_kept := goodIn_r _ [31] (by decide +kernel) (by decide +kernel)
set_option maxRecDepth 20000 in
theorem gX4_raise_X4_kept : GoodIn wsX4_raise (va_wsS RX4 119 yX4_kept wsX4_kept) := goodIn_app (goodIn_of _ (by decide +kernel)) ggX4_raise_X4_kept
set_option maxRecDepth 20000 in
theorem ggX4_raise_X3_raise : GoodIn wsX4_raise wsX3_raise := goodIn_ca (goodIn_ca (goodIn_r _ [36, 37, 38, 39, 40, 41, 35, 42, 43, 44, 45, 46, 47, 48, 49, 50, 51, 52, 53, 54, 55, 56, 57, 58, 59, 60, 61, 62, 63, 64, 65, 66, 67, 68, 22, 23, 24, 69, 26, 27, 70, 71, 72, 73, 74, 83, 84, 85, 86, 87, 88, 89] (by decide +kernel) (by decide +kernel)) (goodIn_sub (fun _ h => List.mem_cons_of_mem _ (List.mem_append_left _ (List.mem_append_right _ h))) (by decide +kernel))) (goodIn_sub (fun _ h => List.mem_cons_of_mem _ (List.mem_append_right _ h)) (by decide +kernel))
set_option maxRecDepth 20000 in
theorem gX4_raise_X3_raise : GoodIn wsX4_raise (wsV RX4 122 RX3 yX3_raise wsX3_raise) := goodIn_app (goodIn_of _ (by decide +kernel)) ggX4_raise_X3_raise
set_option maxRecDepth 20000 in
theorem ggX4_raise_X4_steps : GoodIn wsX4_raise wsX4_steps := goodIn_r _ [77] (by decide +kernel) (by decide +kernel)
set_option maxRecDepth 20000 in
theorem gX4_raise_X4_steps : GoodIn wsX4_raise (va_wsS RX4 126 yX4_steps wsX4_steps) := goodIn_app (goodIn_of _ (by decide +kernel)) ggX4_raise_X4_steps
theorem dX4_raise_0 : decode cX4_raise 0 = .ok (.aload_n 0, 1) := by decide +kernel
theorem dX4_raise_1 : decode cX4_raise 1 = .ok (.iconst 5, 1) := by decide +kernel
theorem dX4_raise_2 : decode cX4_raise 2 = .ok (.invokevirtual 62, 3) := by decide +kernel
theorem dX4_raise_5 : decode cX4_raise 5 = .ok (.istore_n 1, 1) := by decide +kernel
theorem dX4_raise_6 : decode cX4_raise 6 = .ok (.aload_n 0, 1) := by decide +kernel
theorem dX4_raise_7 : decode cX4_raise 7 = .ok (.invokevirtual 74, 3) := by decide +kernel
theorem dX4_raise_10 : decode cX4_raise 10 = .ok (.astore_n 2, 1) := by decide +kernel
theorem dX4_raise_11 : decode cX4_raise 11 = .ok (.aload_n 0, 1) := by decide +kernel
theorem dX4_raise_12 : decode cX4_raise 12 = .ok (.iconst 4, 1) := by decide +kernel
theorem dX4_raise_13 : decode cX4_raise 13 = .ok (.invokevirtual 62, 3) := by decide +kernel
theorem dX4_raise_16 : decode cX4_raise 16 = .ok (.ifCond .ne 17, 3) := by decide +kernel
theorem dX4_raise_19 : decode cX4_raise 19 = .ok (.aload_n 0, 1) := by decide +kernel
theorem dX4_raise_20 : decode cX4_raise 20 = .ok (.sipush 2001, 3) := by decide +kernel
theorem dX4_raise_23 : decode cX4_raise 23 = .ok (.invokevirtual 62, 3) := by decide +kernel
theorem dX4_raise_26 : decode cX4_raise 26 = .ok (.sipush 1000, 3) := by decide +kernel
theorem dX4_raise_29 : decode cX4_raise 29 = .ok (.isub, 1) := by decide +kernel
theorem dX4_raise_30 : decode cX4_raise 30 = .ok (.goto 12, 3) := by decide +kernel
theorem dX4_raise_33 : decode cX4_raise 33 = .ok (.aload_n 0, 1) := by decide +kernel
theorem dX4_raise_34 : decode cX4_raise 34 = .ok (.bipush 21, 2) := by decide +kernel
theorem dX4_raise_36 : decode cX4_raise 36 = .ok (.invokevirtual 62, 3) := by decide +kernel
theorem dX4_raise_39 : decode cX4_raise 39 = .ok (.bipush 10, 2) := by decide +kernel
theorem dX4_raise_41 : decode cX4_raise 41 = .ok (.isub, 1) := by decide +kernel
theorem dX4_raise_42 : decode cX4_raise 42 = .ok (.istore_n 3, 1) := by decide +kernel
theorem dX4_raise_43 : decode cX4_raise 43 = .ok (.aload_n 2, 1) := by decide +kernel
theorem dX4_raise_44 : decode cX4_raise 44 = .ok (.iconst 0, 1) := by decide +kernel
theorem dX4_raise_45 : decode cX4_raise 45 = .ok (.iaload, 1) := by decide +kernel
theorem dX4_raise_46 : decode cX4_raise 46 = .ok (.istore 4, 2) := by decide +kernel
theorem dX4_raise_48 : decode cX4_raise 48 = .ok (.iload 4, 2) := by decide +kernel
theorem dX4_raise_50 : decode cX4_raise 50 = .ok (.aload_n 2, 1) := by decide +kernel
theorem dX4_raise_51 : decode cX4_raise 51 = .ok (.iconst 1, 1) := by decide +kernel
theorem dX4_raise_52 : decode cX4_raise 52 = .ok (.iaload, 1) := by decide +kernel
theorem dX4_raise_53 : decode cX4_raise 53 = .ok (.if_icmp .gt 32, 3) := by decide +kernel
theorem dX4_raise_56 : decode cX4_raise 56 = .ok (.aload_n 0, 1) := by decide +kernel
theorem dX4_raise_57 : decode cX4_raise 57 = .ok (.getfield 23, 3) := by decide +kernel
theorem dX4_raise_60 : decode cX4_raise 60 = .ok (.iload_n 1, 1) := by decide +kernel
theorem dX4_raise_61 : decode cX4_raise 61 = .ok (.aaload, 1) := by decide +kernel
theorem dX4_raise_62 : decode cX4_raise 62 = .ok (.iload 4, 2) := by decide +kernel
theorem dX4_raise_64 : decode cX4_raise 64 = .ok (.aload_n 0, 1) := by decide +kernel
theorem dX4_raise_65 : decode cX4_raise 65 = .ok (.getfield 23, 3) := by decide +kernel
theorem dX4_raise_68 : decode cX4_raise 68 = .ok (.iload_n 1, 1) := by decide +kernel
theorem dX4_raise_69 : decode cX4_raise 69 = .ok (.aaload, 1) := by decide +kernel
theorem dX4_raise_70 : decode cX4_raise 70 = .ok (.iload 4, 2) := by decide +kernel
theorem dX4_raise_72 : decode cX4_raise 72 = .ok (.iaload, 1) := by decide +kernel
theorem dX4_raise_73 : decode cX4_raise 73 = .ok (.iload_n 3, 1) := by decide +kernel
theorem dX4_raise_74 : decode cX4_raise 74 = .ok (.iadd, 1) := by decide +kernel
theorem dX4_raise_75 : decode cX4_raise 75 = .ok (.invokestatic 119, 3) := by decide +kernel
theorem dX4_raise_78 : decode cX4_raise 78 = .ok (.iastore, 1) := by decide +kernel
theorem dX4_raise_79 : decode cX4_raise 79 = .ok (.iinc 4 1, 3) := by decide +kernel
theorem dX4_raise_82 : decode cX4_raise 82 = .ok (.goto (-34), 3) := by decide +kernel
theorem dX4_raise_85 : decode cX4_raise 85 = .ok (.aload_n 0, 1) := by decide +kernel
theorem dX4_raise_86 : decode cX4_raise 86 = .ok (.getfield 10, 3) := by decide +kernel
theorem dX4_raise_89 : decode cX4_raise 89 = .ok (.iload_n 1, 1) := by decide +kernel
theorem dX4_raise_90 : decode cX4_raise 90 = .ok (.aload_n 2, 1) := by decide +kernel
theorem dX4_raise_91 : decode cX4_raise 91 = .ok (.iconst 2, 1) := by decide +kernel
theorem dX4_raise_92 : decode cX4_raise 92 = .ok (.iaload, 1) := by decide +kernel
theorem dX4_raise_93 : decode cX4_raise 93 = .ok (.aload_n 2, 1) := by decide +kernel
theorem dX4_raise_94 : decode cX4_raise 94 = .ok (.iconst 3, 1) := by decide +kernel
theorem dX4_raise_95 : decode cX4_raise 95 = .ok (.iaload, 1) := by decide +kernel
theorem dX4_raise_96 : decode cX4_raise 96 = .ok (.aload_n 2, 1) := by decide +kernel
theorem dX4_raise_97 : decode cX4_raise 97 = .ok (.iconst 4, 1) := by decide +kernel
theorem dX4_raise_98 : decode cX4_raise 98 = .ok (.iaload, 1) := by decide +kernel
theorem dX4_raise_99 : decode cX4_raise 99 = .ok (.iload_n 3, 1) := by decide +kernel
theorem dX4_raise_100 : decode cX4_raise 100 = .ok (.invokevirtual 122, 3) := by decide +kernel
theorem dX4_raise_103 : decode cX4_raise 103 = .ok (.aload_n 0, 1) := by decide +kernel
theorem dX4_raise_104 : decode cX4_raise 104 = .ok (.getfield 23, 3) := by decide +kernel
theorem dX4_raise_107 : decode cX4_raise 107 = .ok (.iload_n 1, 1) := by decide +kernel
theorem dX4_raise_108 : decode cX4_raise 108 = .ok (.aaload, 1) := by decide +kernel
theorem dX4_raise_109 : decode cX4_raise 109 = .ok (.invokestatic 126, 3) := by decide +kernel
theorem dX4_raise_112 : decode cX4_raise 112 = .ok (.if_icmp .ne 7, 3) := by decide +kernel
theorem dX4_raise_115 : decode cX4_raise 115 = .ok (.iconst 1, 1) := by decide +kernel
theorem dX4_raise_116 : decode cX4_raise 116 = .ok (.goto 4, 3) := by decide +kernel
theorem dX4_raise_119 : decode cX4_raise 119 = .ok (.iconst 0, 1) := by decide +kernel
theorem dX4_raise_120 : decode cX4_raise 120 = .ok (.ireturn, 1) := by decide +kernel
set_option maxRecDepth 20000 in
theorem ggX4_set_X4_draw : GoodIn wsX4_set wsX4_draw := goodIn_r _ [8, 9, 10, 11, 12, 13, 14, 15, 16, 17, 74, 75, 76, 77, 78] (by decide +kernel) (by decide +kernel)
set_option maxRecDepth 20000 in
theorem gX4_set_X4_draw : GoodIn wsX4_set (wsV RX4 62 RX4 yX4_draw wsX4_draw) := goodIn_app (goodIn_of _ (by decide +kernel)) ggX4_set_X4_draw
set_option maxRecDepth 20000 in
theorem ggX4_set_X4_isIn : GoodIn wsX4_set wsX4_isIn := goodIn_r _ [20] (by decide +kernel) (by decide +kernel)
set_option maxRecDepth 20000 in
theorem gX4_set_X4_isIn : GoodIn wsX4_set (va_wsS RX4 90 yX4_isIn wsX4_isIn) := goodIn_app (goodIn_of _ (by decide +kernel)) ggX4_set_X4_isIn
set_option maxRecDepth 20000 in
theorem ggX4_set_X3_set : GoodIn wsX4_set wsX3_set := goodIn_ca (goodIn_ca (goodIn_r _ [25, 26, 27, 28, 29, 30, 24, 31, 32, 33, 34, 35, 36, 37, 38, 39, 40, 41, 42, 43, 44, 45, 46, 47, 48, 49, 50, 51, 52, 53, 54, 55, 56, 57, 58, 59, 60, 61, 62, 63, 64, 65, 66, 67, 68, 69, 70, 79, 80, 81, 82, 83, 84, 85, 86] (by decide +kernel) (by decide +kernel)) (goodIn_sub (fun _ h => List.mem_cons_of_mem _ (List.mem_append_left _ (List.mem_append_right _ h))) (by decide +kernel))) (goodIn_sub (fun _ h => List.mem_cons_of_mem _ (List.mem_append_right _ h)) (by decide +kernel))
set_option maxRecDepth 20000 in
theorem gX4_set_X3_set : GoodIn wsX4_set (wsV RX4 129 RX3 yX3_set wsX3_set) := goodIn_app (goodIn_of _ (by decide +kernel)) ggX4_set_X3_set
set_option maxRecDepth 20000 in
theorem ggX4_set_X4_steps : GoodIn wsX4_set wsX4_steps := goodIn_r _ [73] (by decide +kernel) (by decide +kernel)
set_option maxRecDepth 20000 in
theorem gX4_set_X4_steps : GoodIn wsX4_set (va_wsS RX4 126 yX4_steps wsX4_steps) := goodIn_app (goodIn_of _ (by decide +kernel)) ggX4_set_X4_steps
theorem dX4_set_0 : decode cX4_set 0 = .ok (.aload_n 0, 1) := by decide +kernel
theorem dX4_set_1 : decode cX4_set 1 = .ok (.iconst 5, 1) := by decide +kernel
theorem dX4_set_2 : decode cX4_set 2 = .ok (.invokevirtual 62, 3) := by decide +kernel
theorem dX4_set_5 : decode cX4_set 5 = .ok (.istore_n 1, 1) := by decide +kernel
theorem dX4_set_6 : decode cX4_set 6 = .ok (.aload_n 0, 1) := by decide +kernel
theorem dX4_set_7 : decode cX4_set 7 = .ok (.bipush 8, 2) := by decide +kernel
theorem dX4_set_9 : decode cX4_set 9 = .ok (.invokevirtual 62, 3) := by decide +kernel
theorem dX4_set_12 : decode cX4_set 12 = .ok (.istore_n 2, 1) := by decide +kernel
theorem dX4_set_13 : decode cX4_set 13 = .ok (.aload_n 0, 1) := by decide +kernel
theorem dX4_set_14 : decode cX4_set 14 = .ok (.iconst 5, 1) := by decide +kernel
theorem dX4_set_15 : decode cX4_set 15 = .ok (.invokevirtual 62, 3) := by decide +kernel
theorem dX4_set_18 : decode cX4_set 18 = .ok (.ifCond .ne 17, 3) := by decide +kernel
theorem dX4_set_21 : decode cX4_set 21 = .ok (.aload_n 0, 1) := by decide +kernel
theorem dX4_set_22 : decode cX4_set 22 = .ok (.sipush 20001, 3) := by decide +kernel
theorem dX4_set_25 : decode cX4_set 25 = .ok (.invokevirtual 62, 3) := by decide +kernel
theorem dX4_set_28 : decode cX4_set 28 = .ok (.sipush 10000, 3) := by decide +kernel
theorem dX4_set_31 : decode cX4_set 31 = .ok (.isub, 1) := by decide +kernel
theorem dX4_set_32 : decode cX4_set 32 = .ok (.goto 9, 3) := by decide +kernel
theorem dX4_set_35 : decode cX4_set 35 = .ok (.aload_n 0, 1) := by decide +kernel
theorem dX4_set_36 : decode cX4_set 36 = .ok (.bipush 30, 2) := by decide +kernel
theorem dX4_set_38 : decode cX4_set 38 = .ok (.invokevirtual 62, 3) := by decide +kernel
theorem dX4_set_41 : decode cX4_set 41 = .ok (.istore_n 3, 1) := by decide +kernel
theorem dX4_set_42 : decode cX4_set 42 = .ok (.iconst 0, 1) := by decide +kernel
theorem dX4_set_43 : decode cX4_set 43 = .ok (.istore 4, 2) := by decide +kernel
theorem dX4_set_45 : decode cX4_set 45 = .ok (.iload 4, 2) := by decide +kernel
theorem dX4_set_47 : decode cX4_set 47 = .ok (.sipush 200, 3) := by decide +kernel
theorem dX4_set_50 : decode cX4_set 50 = .ok (.if_icmp .gt 33, 3) := by decide +kernel
theorem dX4_set_53 : decode cX4_set 53 = .ok (.aload_n 0, 1) := by decide +kernel
theorem dX4_set_54 : decode cX4_set 54 = .ok (.getfield 18, 3) := by decide +kernel
theorem dX4_set_57 : decode cX4_set 57 = .ok (.iload_n 2, 1) := by decide +kernel
theorem dX4_set_58 : decode cX4_set 58 = .ok (.aaload, 1) := by decide +kernel
theorem dX4_set_59 : decode cX4_set 59 = .ok (.iload 4, 2) := by decide +kernel
theorem dX4_set_61 : decode cX4_set 61 = .ok (.invokestatic 90, 3) := by decide +kernel
theorem dX4_set_64 : decode cX4_set 64 = .ok (.ifCond .eq 13, 3) := by decide +kernel
theorem dX4_set_67 : decode cX4_set 67 = .ok (.aload_n 0, 1) := by decide +kernel
theorem dX4_set_68 : decode cX4_set 68 = .ok (.getfield 23, 3) := by decide +kernel
theorem dX4_set_71 : decode cX4_set 71 = .ok (.iload_n 1, 1) := by decide +kernel
theorem dX4_set_72 : decode cX4_set 72 = .ok (.aaload, 1) := by decide +kernel
theorem dX4_set_73 : decode cX4_set 73 = .ok (.iload 4, 2) := by decide +kernel
theorem dX4_set_75 : decode cX4_set 75 = .ok (.iload_n 3, 1) := by decide +kernel
theorem dX4_set_76 : decode cX4_set 76 = .ok (.iastore, 1) := by decide +kernel
theorem dX4_set_77 : decode cX4_set 77 = .ok (.iinc 4 1, 3) := by decide +kernel
theorem dX4_set_80 : decode cX4_set 80 = .ok (.goto (-35), 3) := by decide +kernel
theorem dX4_set_83 : decode cX4_set 83 = .ok (.aload_n 0, 1) := by decide +kernel
theorem dX4_set_84 : decode cX4_set 84 = .ok (.getfield 10, 3) := by decide +kernel
theorem dX4_set_87 : decode cX4_set 87 = .ok (.iload_n 1, 1) := by decide +kernel
theorem dX4_set_88 : decode cX4_set 88 = .ok (.iload_n 2, 1) := by decide +kernel
theorem dX4_set_89 : decode cX4_set 89 = .ok (.iload_n 3, 1) := by decide +kernel
theorem dX4_set_90 : decode cX4_set 90 = .ok (.invokevirtual 129, 3) := by decide +kernel
theorem dX4_set_93 : decode cX4_set 93 = .ok (.aload_n 0, 1) := by decide +kernel
theorem dX4_set_94 : decode cX4_set 94 = .ok (.getfield 23, 3) := by decide +kernel
theorem dX4_set_97 : decode cX4_set 97 = .ok (.iload_n 1, 1) := by decide +kernel
theorem dX4_set_98 : decode cX4_set 98 = .ok (.aaload, 1) := by decide +kernel
theorem dX4_set_99 : decode cX4_set 99 = .ok (.invokestatic 126, 3) := by decide +kernel
theorem dX4_set_102 : decode cX4_set 102 = .ok (.if_icmp .ne 7, 3) := by decide +kernel
theorem dX4_set_105 : decode cX4_set 105 = .ok (.iconst 1, 1) := by decide +kernel
theorem dX4_set_106 : decode cX4_set 106 = .ok (.goto 4, 3) := by decide +kernel
theorem dX4_set_109 : decode cX4_set 109 = .ok (.iconst 0, 1) := by decide +kernel
theorem dX4_set_110 : decode cX4_set 110 = .ok (.ireturn, 1) := by decide +kernel
set_option maxRecDepth 20000 in
theorem ggX4_mix_X4_draw : GoodIn wsX4_mix wsX4_draw := goodIn_r _ [8, 9, 10, 11, 12, 13, 14, 15, 16, 17, 68, 69, 70, 71, 72] (by decide +kernel) (by decide +kernel)
set_option maxRecDepth 20000 in
theorem gX4_mix_X4_draw : GoodIn wsX4_mix (wsV RX4 62 RX4 yX4_draw wsX4_draw) := goodIn_app (goodIn_of _ (by decide +kernel)) ggX4_mix_X4_draw
set_option maxRecDepth 20000 in
theorem ggX4_mix_X4_kept : GoodIn wsX4_mix wsX4_kept := goodIn_r _ [20] (by decide +kernel) (by decide +kernel)
set_option maxRecDepth 20000 in
theorem gX4_mix_X4_kept : GoodIn wsX4_mix (va_wsS RX4 119 yX4_kept wsX4_kept) := goodIn_app (goodIn_of _ (by decide +kernel)) ggX4_mix_X4_kept
set_option maxRecDepth 20000 in
theorem ggX4_mix_X3_mix : GoodIn wsX4_mix wsX3_mix := goodIn_ca (goodIn_ca (goodIn_r _ [25, 26, 27, 28, 24, 29, 30, 31, 32, 33, 34, 35, 36, 37, 38, 39, 40, 41, 42, 43, 44, 45, 46, 47, 48, 49, 50, 51, 52, 53, 54, 55, 56, 57, 58, 59, 60, 61, 62, 63, 64, 73, 74, 75, 76, 77, 78, 79] (by decide +kernel) (by decide +kernel)) (goodIn_sub (fun _ h => List.mem_cons_of_mem _ (List.mem_append_left _ (List.mem_append_right _ h))) (by decide +kernel))) (goodIn_sub (fun _ h => List.mem_cons_of_mem _ (List.mem_append_right _ h)) (by decide +kernel))
set_option maxRecDepth 20000 in
theorem gX4_mix_X3_mix : GoodIn wsX4_mix (wsV RX4 133 RX3 yX3_mix wsX3_mix) := goodIn_app (goodIn_of _ (by decide +kernel)) ggX4_mix_X3_mix
set_option maxRecDepth 20000 in
theorem ggX4_mix_X4_steps : GoodIn wsX4_mix wsX4_steps := goodIn_r _ [67] (by decide +kernel) (by decide +kernel)
set_option maxRecDepth 20000 in
theorem gX4_mix_X4_steps : GoodIn wsX4_mix (va_wsS RX4 126 yX4_steps wsX4_steps) := goodIn_app (goodIn_of _ (by decide +kernel)) ggX4_mix_X4_steps
