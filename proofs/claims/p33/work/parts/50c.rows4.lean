theorem dX4_mix_0 : decode cX4_mix 0 = .ok (.aload_n 0, 1) := by decide +kernel
theorem dX4_mix_1 : decode cX4_mix 1 = .ok (.iconst 5, 1) := by decide +kernel
theorem dX4_mix_2 : decode cX4_mix 2 = .ok (.invokevirtual 62, 3) := by decide +kernel
theorem dX4_mix_5 : decode cX4_mix 5 = .ok (.istore_n 1, 1) := by decide +kernel
theorem dX4_mix_6 : decode cX4_mix 6 = .ok (.aload_n 0, 1) := by decide +kernel
theorem dX4_mix_7 : decode cX4_mix 7 = .ok (.iconst 5, 1) := by decide +kernel
theorem dX4_mix_8 : decode cX4_mix 8 = .ok (.invokevirtual 62, 3) := by decide +kernel
theorem dX4_mix_11 : decode cX4_mix 11 = .ok (.istore_n 2, 1) := by decide +kernel
theorem dX4_mix_12 : decode cX4_mix 12 = .ok (.aload_n 0, 1) := by decide +kernel
theorem dX4_mix_13 : decode cX4_mix 13 = .ok (.iconst 5, 1) := by decide +kernel
theorem dX4_mix_14 : decode cX4_mix 14 = .ok (.invokevirtual 62, 3) := by decide +kernel
theorem dX4_mix_17 : decode cX4_mix 17 = .ok (.istore_n 3, 1) := by decide +kernel
theorem dX4_mix_18 : decode cX4_mix 18 = .ok (.aload_n 0, 1) := by decide +kernel
theorem dX4_mix_19 : decode cX4_mix 19 = .ok (.iconst 5, 1) := by decide +kernel
theorem dX4_mix_20 : decode cX4_mix 20 = .ok (.invokevirtual 62, 3) := by decide +kernel
theorem dX4_mix_23 : decode cX4_mix 23 = .ok (.istore 4, 2) := by decide +kernel
theorem dX4_mix_25 : decode cX4_mix 25 = .ok (.sipush 201, 3) := by decide +kernel
theorem dX4_mix_28 : decode cX4_mix 28 = .ok (.newarray .int, 2) := by decide +kernel
theorem dX4_mix_30 : decode cX4_mix 30 = .ok (.astore 5, 2) := by decide +kernel
theorem dX4_mix_32 : decode cX4_mix 32 = .ok (.iconst 0, 1) := by decide +kernel
theorem dX4_mix_33 : decode cX4_mix 33 = .ok (.istore 6, 2) := by decide +kernel
theorem dX4_mix_35 : decode cX4_mix 35 = .ok (.iload 6, 2) := by decide +kernel
theorem dX4_mix_37 : decode cX4_mix 37 = .ok (.sipush 200, 3) := by decide +kernel
theorem dX4_mix_40 : decode cX4_mix 40 = .ok (.if_icmp .gt 120, 3) := by decide +kernel
theorem dX4_mix_43 : decode cX4_mix 43 = .ok (.aload_n 0, 1) := by decide +kernel
theorem dX4_mix_44 : decode cX4_mix 44 = .ok (.getfield 23, 3) := by decide +kernel
theorem dX4_mix_47 : decode cX4_mix 47 = .ok (.iload_n 2, 1) := by decide +kernel
theorem dX4_mix_48 : decode cX4_mix 48 = .ok (.aaload, 1) := by decide +kernel
theorem dX4_mix_49 : decode cX4_mix 49 = .ok (.iload 6, 2) := by decide +kernel
theorem dX4_mix_51 : decode cX4_mix 51 = .ok (.iaload, 1) := by decide +kernel
theorem dX4_mix_52 : decode cX4_mix 52 = .ok (.istore 7, 2) := by decide +kernel
theorem dX4_mix_54 : decode cX4_mix 54 = .ok (.aload_n 0, 1) := by decide +kernel
theorem dX4_mix_55 : decode cX4_mix 55 = .ok (.getfield 23, 3) := by decide +kernel
theorem dX4_mix_58 : decode cX4_mix 58 = .ok (.iload_n 3, 1) := by decide +kernel
theorem dX4_mix_59 : decode cX4_mix 59 = .ok (.aaload, 1) := by decide +kernel
theorem dX4_mix_60 : decode cX4_mix 60 = .ok (.iload 6, 2) := by decide +kernel
theorem dX4_mix_62 : decode cX4_mix 62 = .ok (.iaload, 1) := by decide +kernel
theorem dX4_mix_63 : decode cX4_mix 63 = .ok (.istore 8, 2) := by decide +kernel
theorem dX4_mix_65 : decode cX4_mix 65 = .ok (.aload 5, 2) := by decide +kernel
theorem dX4_mix_67 : decode cX4_mix 67 = .ok (.iload 6, 2) := by decide +kernel
theorem dX4_mix_69 : decode cX4_mix 69 = .ok (.iload 4, 2) := by decide +kernel
theorem dX4_mix_71 : decode cX4_mix 71 = .ok (.ifCond .ne 11, 3) := by decide +kernel
theorem dX4_mix_74 : decode cX4_mix 74 = .ok (.iload 7, 2) := by decide +kernel
theorem dX4_mix_76 : decode cX4_mix 76 = .ok (.iload 8, 2) := by decide +kernel
theorem dX4_mix_78 : decode cX4_mix 78 = .ok (.iadd, 1) := by decide +kernel
theorem dX4_mix_79 : decode cX4_mix 79 = .ok (.goto 71, 3) := by decide +kernel
theorem dX4_mix_82 : decode cX4_mix 82 = .ok (.iload 4, 2) := by decide +kernel
theorem dX4_mix_84 : decode cX4_mix 84 = .ok (.iconst 1, 1) := by decide +kernel
theorem dX4_mix_85 : decode cX4_mix 85 = .ok (.if_icmp .ne 20, 3) := by decide +kernel
theorem dX4_mix_88 : decode cX4_mix 88 = .ok (.iload 7, 2) := by decide +kernel
theorem dX4_mix_90 : decode cX4_mix 90 = .ok (.iload 8, 2) := by decide +kernel
theorem dX4_mix_92 : decode cX4_mix 92 = .ok (.if_icmp .ge 8, 3) := by decide +kernel
theorem dX4_mix_95 : decode cX4_mix 95 = .ok (.iload 7, 2) := by decide +kernel
theorem dX4_mix_97 : decode cX4_mix 97 = .ok (.goto 53, 3) := by decide +kernel
theorem dX4_mix_100 : decode cX4_mix 100 = .ok (.iload 8, 2) := by decide +kernel
theorem dX4_mix_102 : decode cX4_mix 102 = .ok (.goto 48, 3) := by decide +kernel
theorem dX4_mix_105 : decode cX4_mix 105 = .ok (.iload 4, 2) := by decide +kernel
theorem dX4_mix_107 : decode cX4_mix 107 = .ok (.iconst 2, 1) := by decide +kernel
theorem dX4_mix_108 : decode cX4_mix 108 = .ok (.if_icmp .ne 20, 3) := by decide +kernel
theorem dX4_mix_111 : decode cX4_mix 111 = .ok (.iload 7, 2) := by decide +kernel
theorem dX4_mix_113 : decode cX4_mix 113 = .ok (.iload 8, 2) := by decide +kernel
theorem dX4_mix_115 : decode cX4_mix 115 = .ok (.if_icmp .ge 8, 3) := by decide +kernel
theorem dX4_mix_118 : decode cX4_mix 118 = .ok (.iload 8, 2) := by decide +kernel
theorem dX4_mix_120 : decode cX4_mix 120 = .ok (.goto 30, 3) := by decide +kernel
theorem dX4_mix_123 : decode cX4_mix 123 = .ok (.iload 7, 2) := by decide +kernel
theorem dX4_mix_125 : decode cX4_mix 125 = .ok (.goto 25, 3) := by decide +kernel
theorem dX4_mix_128 : decode cX4_mix 128 = .ok (.iload 4, 2) := by decide +kernel
theorem dX4_mix_130 : decode cX4_mix 130 = .ok (.iconst 3, 1) := by decide +kernel
theorem dX4_mix_131 : decode cX4_mix 131 = .ok (.if_icmp .ne 11, 3) := by decide +kernel
theorem dX4_mix_134 : decode cX4_mix 134 = .ok (.iload 7, 2) := by decide +kernel
theorem dX4_mix_136 : decode cX4_mix 136 = .ok (.iload 8, 2) := by decide +kernel
theorem dX4_mix_138 : decode cX4_mix 138 = .ok (.isub, 1) := by decide +kernel
theorem dX4_mix_139 : decode cX4_mix 139 = .ok (.goto 11, 3) := by decide +kernel
theorem dX4_mix_142 : decode cX4_mix 142 = .ok (.iload 7, 2) := by decide +kernel
theorem dX4_mix_144 : decode cX4_mix 144 = .ok (.iload 8, 2) := by decide +kernel
theorem dX4_mix_146 : decode cX4_mix 146 = .ok (.imul, 1) := by decide +kernel
theorem dX4_mix_147 : decode cX4_mix 147 = .ok (.bipush 100, 2) := by decide +kernel
theorem dX4_mix_149 : decode cX4_mix 149 = .ok (.idiv, 1) := by decide +kernel
theorem dX4_mix_150 : decode cX4_mix 150 = .ok (.invokestatic 119, 3) := by decide +kernel
theorem dX4_mix_153 : decode cX4_mix 153 = .ok (.iastore, 1) := by decide +kernel
theorem dX4_mix_154 : decode cX4_mix 154 = .ok (.iinc 6 1, 3) := by decide +kernel
theorem dX4_mix_157 : decode cX4_mix 157 = .ok (.goto (-122), 3) := by decide +kernel
theorem dX4_mix_160 : decode cX4_mix 160 = .ok (.aload_n 0, 1) := by decide +kernel
theorem dX4_mix_161 : decode cX4_mix 161 = .ok (.getfield 23, 3) := by decide +kernel
theorem dX4_mix_164 : decode cX4_mix 164 = .ok (.iload_n 1, 1) := by decide +kernel
theorem dX4_mix_165 : decode cX4_mix 165 = .ok (.aload 5, 2) := by decide +kernel
theorem dX4_mix_167 : decode cX4_mix 167 = .ok (.aastore, 1) := by decide +kernel
theorem dX4_mix_168 : decode cX4_mix 168 = .ok (.aload_n 0, 1) := by decide +kernel
theorem dX4_mix_169 : decode cX4_mix 169 = .ok (.getfield 10, 3) := by decide +kernel
theorem dX4_mix_172 : decode cX4_mix 172 = .ok (.iload_n 1, 1) := by decide +kernel
theorem dX4_mix_173 : decode cX4_mix 173 = .ok (.iload_n 2, 1) := by decide +kernel
theorem dX4_mix_174 : decode cX4_mix 174 = .ok (.iload_n 3, 1) := by decide +kernel
theorem dX4_mix_175 : decode cX4_mix 175 = .ok (.iload 4, 2) := by decide +kernel
theorem dX4_mix_177 : decode cX4_mix 177 = .ok (.invokevirtual 133, 3) := by decide +kernel
theorem dX4_mix_180 : decode cX4_mix 180 = .ok (.aload 5, 2) := by decide +kernel
theorem dX4_mix_182 : decode cX4_mix 182 = .ok (.invokestatic 126, 3) := by decide +kernel
theorem dX4_mix_185 : decode cX4_mix 185 = .ok (.if_icmp .ne 7, 3) := by decide +kernel
theorem dX4_mix_188 : decode cX4_mix 188 = .ok (.iconst 1, 1) := by decide +kernel
theorem dX4_mix_189 : decode cX4_mix 189 = .ok (.goto 4, 3) := by decide +kernel
theorem dX4_mix_192 : decode cX4_mix 192 = .ok (.iconst 0, 1) := by decide +kernel
theorem dX4_mix_193 : decode cX4_mix 193 = .ok (.ireturn, 1) := by decide +kernel
set_option maxRecDepth 20000 in
theorem ggX4_turn_X4_draw : GoodIn wsX4_turn wsX4_draw := goodIn_r _ [12, 13, 14, 15, 16, 17, 18, 19, 20, 21, 112, 113, 114, 115, 116] (by decide +kernel) (by decide +kernel)
set_option maxRecDepth 20000 in
theorem gX4_turn_X4_draw : GoodIn wsX4_turn (wsV RX4 62 RX4 yX4_draw wsX4_draw) := goodIn_app (goodIn_of _ (by decide +kernel)) ggX4_turn_X4_draw
set_option maxRecDepth 20000 in
theorem ggX4_turn_X4_kept : GoodIn wsX4_turn wsX4_kept := goodIn_r _ [24] (by decide +kernel) (by decide +kernel)
set_option maxRecDepth 20000 in
theorem gX4_turn_X4_kept : GoodIn wsX4_turn (va_wsS RX4 119 yX4_kept wsX4_kept) := goodIn_app (goodIn_of _ (by decide +kernel)) ggX4_turn_X4_kept
set_option maxRecDepth 20000 in
theorem ggX4_turn_X3_turn : GoodIn wsX4_turn wsX3_turn := goodIn_ca (goodIn_ca (goodIn_r _ [29, 30, 31, 32, 33, 34, 28, 35, 36, 37, 38, 39, 40, 41, 42, 43, 44, 45, 46, 47, 48, 49, 50, 51, 52, 53, 54, 55, 56, 57, 58, 59, 60, 61, 62, 5, 63, 64, 65, 66, 67, 68, 69, 70, 71, 72, 73, 74, 75, 76, 77, 78, 79, 80, 81, 82, 83, 84, 85, 86, 87, 88, 89, 90, 91, 92, 93, 94, 95, 96, 97, 98, 99, 100, 101, 102, 103, 104, 105, 106, 107, 108, 117, 118, 119, 120, 121, 122, 123] (by decide +kernel) (by decide +kernel)) (goodIn_sub (fun _ h => List.mem_cons_of_mem _ (List.mem_append_left _ (List.mem_append_right _ h))) (by decide +kernel))) (goodIn_sub (fun _ h => List.mem_cons_of_mem _ (List.mem_append_right _ h)) (by decide +kernel))
set_option maxRecDepth 20000 in
theorem gX4_turn_X3_turn : GoodIn wsX4_turn (wsV RX4 139 RX3 yX3_turn wsX3_turn) := goodIn_app (goodIn_of _ (by decide +kernel)) ggX4_turn_X3_turn
set_option maxRecDepth 20000 in
theorem ggX4_turn_X4_steps : GoodIn wsX4_turn wsX4_steps := goodIn_r _ [111] (by decide +kernel) (by decide +kernel)
set_option maxRecDepth 20000 in
theorem gX4_turn_X4_steps : GoodIn wsX4_turn (va_wsS RX4 126 yX4_steps wsX4_steps) := goodIn_app (goodIn_of _ (by decide +kernel)) ggX4_turn_X4_steps
theorem dX4_turn_0 : decode cX4_turn 0 = .ok (.aload_n 0, 1) := by decide +kernel
theorem dX4_turn_1 : decode cX4_turn 1 = .ok (.iconst 5, 1) := by decide +kernel
theorem dX4_turn_2 : decode cX4_turn 2 = .ok (.invokevirtual 62, 3) := by decide +kernel
theorem dX4_turn_5 : decode cX4_turn 5 = .ok (.istore_n 1, 1) := by decide +kernel
theorem dX4_turn_6 : decode cX4_turn 6 = .ok (.aload_n 0, 1) := by decide +kernel
theorem dX4_turn_7 : decode cX4_turn 7 = .ok (.bipush 7, 2) := by decide +kernel
theorem dX4_turn_9 : decode cX4_turn 9 = .ok (.invokevirtual 62, 3) := by decide +kernel
theorem dX4_turn_12 : decode cX4_turn 12 = .ok (.istore_n 2, 1) := by decide +kernel
theorem dX4_turn_13 : decode cX4_turn 13 = .ok (.aload_n 0, 1) := by decide +kernel
theorem dX4_turn_14 : decode cX4_turn 14 = .ok (.iconst 4, 1) := by decide +kernel
theorem dX4_turn_15 : decode cX4_turn 15 = .ok (.invokevirtual 62, 3) := by decide +kernel
theorem dX4_turn_18 : decode cX4_turn 18 = .ok (.ifCond .ne 13, 3) := by decide +kernel
theorem dX4_turn_21 : decode cX4_turn 21 = .ok (.aload_n 0, 1) := by decide +kernel
theorem dX4_turn_22 : decode cX4_turn 22 = .ok (.sipush 201, 3) := by decide +kernel
theorem dX4_turn_25 : decode cX4_turn 25 = .ok (.invokevirtual 62, 3) := by decide +kernel
theorem dX4_turn_28 : decode cX4_turn 28 = .ok (.goto 9, 3) := by decide +kernel
theorem dX4_turn_31 : decode cX4_turn 31 = .ok (.aload_n 0, 1) := by decide +kernel
theorem dX4_turn_32 : decode cX4_turn 32 = .ok (.bipush 9, 2) := by decide +kernel
theorem dX4_turn_34 : decode cX4_turn 34 = .ok (.invokevirtual 62, 3) := by decide +kernel
theorem dX4_turn_37 : decode cX4_turn 37 = .ok (.istore_n 3, 1) := by decide +kernel
theorem dX4_turn_38 : decode cX4_turn 38 = .ok (.aload_n 0, 1) := by decide +kernel
theorem dX4_turn_39 : decode cX4_turn 39 = .ok (.getfield 23, 3) := by decide +kernel
theorem dX4_turn_42 : decode cX4_turn 42 = .ok (.iload_n 1, 1) := by decide +kernel
theorem dX4_turn_43 : decode cX4_turn 43 = .ok (.aaload, 1) := by decide +kernel
theorem dX4_turn_44 : decode cX4_turn 44 = .ok (.astore 4, 2) := by decide +kernel
theorem dX4_turn_46 : decode cX4_turn 46 = .ok (.sipush 201, 3) := by decide +kernel
theorem dX4_turn_49 : decode cX4_turn 49 = .ok (.newarray .int, 2) := by decide +kernel
theorem dX4_turn_51 : decode cX4_turn 51 = .ok (.astore 5, 2) := by decide +kernel
theorem dX4_turn_53 : decode cX4_turn 53 = .ok (.iconst 0, 1) := by decide +kernel
theorem dX4_turn_54 : decode cX4_turn 54 = .ok (.istore 6, 2) := by decide +kernel
theorem dX4_turn_56 : decode cX4_turn 56 = .ok (.iconst 0, 1) := by decide +kernel
theorem dX4_turn_57 : decode cX4_turn 57 = .ok (.istore 7, 2) := by decide +kernel
theorem dX4_turn_59 : decode cX4_turn 59 = .ok (.iload 7, 2) := by decide +kernel
theorem dX4_turn_61 : decode cX4_turn 61 = .ok (.sipush 200, 3) := by decide +kernel
theorem dX4_turn_64 : decode cX4_turn 64 = .ok (.if_icmp .gt 215, 3) := by decide +kernel
theorem dX4_turn_67 : decode cX4_turn 67 = .ok (.iload 6, 2) := by decide +kernel
theorem dX4_turn_69 : decode cX4_turn 69 = .ok (.iload 7, 2) := by decide +kernel
theorem dX4_turn_71 : decode cX4_turn 71 = .ok (.iconst 2, 1) := by decide +kernel
theorem dX4_turn_72 : decode cX4_turn 72 = .ok (.irem, 1) := by decide +kernel
theorem dX4_turn_73 : decode cX4_turn 73 = .ok (.iconst 1, 1) := by decide +kernel
theorem dX4_turn_74 : decode cX4_turn 74 = .ok (.if_icmp .ne 11, 3) := by decide +kernel
theorem dX4_turn_77 : decode cX4_turn 77 = .ok (.aload 4, 2) := by decide +kernel
theorem dX4_turn_79 : decode cX4_turn 79 = .ok (.iload 7, 2) := by decide +kernel
theorem dX4_turn_81 : decode cX4_turn 81 = .ok (.iaload, 1) := by decide +kernel
theorem dX4_turn_82 : decode cX4_turn 82 = .ok (.goto 4, 3) := by decide +kernel
theorem dX4_turn_85 : decode cX4_turn 85 = .ok (.iconst 0, 1) := by decide +kernel
theorem dX4_turn_86 : decode cX4_turn 86 = .ok (.iadd, 1) := by decide +kernel
theorem dX4_turn_87 : decode cX4_turn 87 = .ok (.istore 6, 2) := by decide +kernel
theorem dX4_turn_89 : decode cX4_turn 89 = .ok (.aload 5, 2) := by decide +kernel
theorem dX4_turn_91 : decode cX4_turn 91 = .ok (.iload 7, 2) := by decide +kernel
theorem dX4_turn_93 : decode cX4_turn 93 = .ok (.iload_n 2, 1) := by decide +kernel
theorem dX4_turn_94 : decode cX4_turn 94 = .ok (.ifCond .ne 12, 3) := by decide +kernel
theorem dX4_turn_97 : decode cX4_turn 97 = .ok (.aload 4, 2) := by decide +kernel
theorem dX4_turn_99 : decode cX4_turn 99 = .ok (.iload 7, 2) := by decide +kernel
theorem dX4_turn_101 : decode cX4_turn 101 = .ok (.iaload, 1) := by decide +kernel
theorem dX4_turn_102 : decode cX4_turn 102 = .ok (.ineg, 1) := by decide +kernel
theorem dX4_turn_103 : decode cX4_turn 103 = .ok (.goto 38, 3) := by decide +kernel
theorem dX4_turn_106 : decode cX4_turn 106 = .ok (.iload_n 2, 1) := by decide +kernel
theorem dX4_turn_107 : decode cX4_turn 107 = .ok (.iconst 3, 1) := by decide +kernel
theorem dX4_turn_108 : decode cX4_turn 108 = .ok (.if_icmp .ne 11, 3) := by decide +kernel
theorem dX4_turn_111 : decode cX4_turn 111 = .ok (.iload 6, 2) := by decide +kernel
theorem dX4_turn_113 : decode cX4_turn 113 = .ok (.invokestatic 119, 3) := by decide +kernel
theorem dX4_turn_116 : decode cX4_turn 116 = .ok (.goto 25, 3) := by decide +kernel
theorem dX4_turn_119 : decode cX4_turn 119 = .ok (.iload_n 2, 1) := by decide +kernel
theorem dX4_turn_120 : decode cX4_turn 120 = .ok (.iconst 4, 1) := by decide +kernel
theorem dX4_turn_121 : decode cX4_turn 121 = .ok (.if_icmp .ne 15, 3) := by decide +kernel
theorem dX4_turn_124 : decode cX4_turn 124 = .ok (.aload 4, 2) := by decide +kernel
theorem dX4_turn_126 : decode cX4_turn 126 = .ok (.sipush 200, 3) := by decide +kernel
theorem dX4_turn_129 : decode cX4_turn 129 = .ok (.iload 7, 2) := by decide +kernel
theorem dX4_turn_131 : decode cX4_turn 131 = .ok (.isub, 1) := by decide +kernel
theorem dX4_turn_132 : decode cX4_turn 132 = .ok (.iaload, 1) := by decide +kernel
theorem dX4_turn_133 : decode cX4_turn 133 = .ok (.goto 8, 3) := by decide +kernel
theorem dX4_turn_136 : decode cX4_turn 136 = .ok (.aload 4, 2) := by decide +kernel
theorem dX4_turn_138 : decode cX4_turn 138 = .ok (.iload 7, 2) := by decide +kernel
theorem dX4_turn_140 : decode cX4_turn 140 = .ok (.iaload, 1) := by decide +kernel
theorem dX4_turn_141 : decode cX4_turn 141 = .ok (.iastore, 1) := by decide +kernel
theorem dX4_turn_142 : decode cX4_turn 142 = .ok (.iconst 0, 1) := by decide +kernel
theorem dX4_turn_143 : decode cX4_turn 143 = .ok (.istore 8, 2) := by decide +kernel
theorem dX4_turn_145 : decode cX4_turn 145 = .ok (.iload 8, 2) := by decide +kernel
theorem dX4_turn_147 : decode cX4_turn 147 = .ok (.sipush 200, 3) := by decide +kernel
theorem dX4_turn_150 : decode cX4_turn 150 = .ok (.if_icmp .gt 123, 3) := by decide +kernel
theorem dX4_turn_153 : decode cX4_turn 153 = .ok (.iload_n 2, 1) := by decide +kernel
theorem dX4_turn_154 : decode cX4_turn 154 = .ok (.iconst 1, 1) := by decide +kernel
theorem dX4_turn_155 : decode cX4_turn 155 = .ok (.if_icmp .ne 18, 3) := by decide +kernel
theorem dX4_turn_158 : decode cX4_turn 158 = .ok (.iload 8, 2) := by decide +kernel
theorem dX4_turn_160 : decode cX4_turn 160 = .ok (.iload 7, 2) := by decide +kernel
theorem dX4_turn_162 : decode cX4_turn 162 = .ok (.if_icmp .gt 7, 3) := by decide +kernel
theorem dX4_turn_165 : decode cX4_turn 165 = .ok (.iconst 1, 1) := by decide +kernel
theorem dX4_turn_166 : decode cX4_turn 166 = .ok (.goto 49, 3) := by decide +kernel
theorem dX4_turn_169 : decode cX4_turn 169 = .ok (.iconst 0, 1) := by decide +kernel
theorem dX4_turn_170 : decode cX4_turn 170 = .ok (.goto 45, 3) := by decide +kernel
theorem dX4_turn_173 : decode cX4_turn 173 = .ok (.iload_n 2, 1) := by decide +kernel
theorem dX4_turn_174 : decode cX4_turn 174 = .ok (.iconst 2, 1) := by decide +kernel
theorem dX4_turn_175 : decode cX4_turn 175 = .ok (.if_icmp .ne 18, 3) := by decide +kernel
theorem dX4_turn_178 : decode cX4_turn 178 = .ok (.iload 8, 2) := by decide +kernel
theorem dX4_turn_180 : decode cX4_turn 180 = .ok (.iload 7, 2) := by decide +kernel
theorem dX4_turn_182 : decode cX4_turn 182 = .ok (.if_icmp .lt 7, 3) := by decide +kernel
theorem dX4_turn_185 : decode cX4_turn 185 = .ok (.iconst 1, 1) := by decide +kernel
theorem dX4_turn_186 : decode cX4_turn 186 = .ok (.goto 29, 3) := by decide +kernel
theorem dX4_turn_189 : decode cX4_turn 189 = .ok (.iconst 0, 1) := by decide +kernel
theorem dX4_turn_190 : decode cX4_turn 190 = .ok (.goto 25, 3) := by decide +kernel
theorem dX4_turn_193 : decode cX4_turn 193 = .ok (.iload_n 2, 1) := by decide +kernel
theorem dX4_turn_194 : decode cX4_turn 194 = .ok (.iconst 4, 1) := by decide +kernel
theorem dX4_turn_195 : decode cX4_turn 195 = .ok (.if_icmp .le 19, 3) := by decide +kernel
theorem dX4_turn_198 : decode cX4_turn 198 = .ok (.iload 8, 2) := by decide +kernel
theorem dX4_turn_200 : decode cX4_turn 200 = .ok (.iload 7, 2) := by decide +kernel
theorem dX4_turn_202 : decode cX4_turn 202 = .ok (.isub, 1) := by decide +kernel
theorem dX4_turn_203 : decode cX4_turn 203 = .ok (.invokestatic 136, 3) := by decide +kernel
theorem dX4_turn_206 : decode cX4_turn 206 = .ok (.iload_n 3, 1) := by decide +kernel
theorem dX4_turn_207 : decode cX4_turn 207 = .ok (.if_icmp .gt 7, 3) := by decide +kernel
theorem dX4_turn_210 : decode cX4_turn 210 = .ok (.iconst 1, 1) := by decide +kernel
theorem dX4_turn_211 : decode cX4_turn 211 = .ok (.goto 4, 3) := by decide +kernel
theorem dX4_turn_214 : decode cX4_turn 214 = .ok (.iconst 0, 1) := by decide +kernel
theorem dX4_turn_215 : decode cX4_turn 215 = .ok (.istore 9, 2) := by decide +kernel
theorem dX4_turn_217 : decode cX4_turn 217 = .ok (.iload 9, 2) := by decide +kernel
theorem dX4_turn_219 : decode cX4_turn 219 = .ok (.ifCond .eq 48, 3) := by decide +kernel
theorem dX4_turn_222 : decode cX4_turn 222 = .ok (.iload_n 2, 1) := by decide +kernel
theorem dX4_turn_223 : decode cX4_turn 223 = .ok (.bipush 6, 2) := by decide +kernel
theorem dX4_turn_225 : decode cX4_turn 225 = .ok (.if_icmp .ne 19, 3) := by decide +kernel
theorem dX4_turn_228 : decode cX4_turn 228 = .ok (.aload 4, 2) := by decide +kernel
theorem dX4_turn_230 : decode cX4_turn 230 = .ok (.iload 8, 2) := by decide +kernel
theorem dX4_turn_232 : decode cX4_turn 232 = .ok (.iaload, 1) := by decide +kernel
theorem dX4_turn_233 : decode cX4_turn 233 = .ok (.aload 5, 2) := by decide +kernel
theorem dX4_turn_235 : decode cX4_turn 235 = .ok (.iload 7, 2) := by decide +kernel
theorem dX4_turn_237 : decode cX4_turn 237 = .ok (.iaload, 1) := by decide +kernel
theorem dX4_turn_238 : decode cX4_turn 238 = .ok (.if_icmp .ge 29, 3) := by decide +kernel
theorem dX4_turn_241 : decode cX4_turn 241 = .ok (.goto 16, 3) := by decide +kernel
theorem dX4_turn_244 : decode cX4_turn 244 = .ok (.aload 4, 2) := by decide +kernel
theorem dX4_turn_246 : decode cX4_turn 246 = .ok (.iload 8, 2) := by decide +kernel
theorem dX4_turn_248 : decode cX4_turn 248 = .ok (.iaload, 1) := by decide +kernel
theorem dX4_turn_249 : decode cX4_turn 249 = .ok (.aload 5, 2) := by decide +kernel
theorem dX4_turn_251 : decode cX4_turn 251 = .ok (.iload 7, 2) := by decide +kernel
theorem dX4_turn_253 : decode cX4_turn 253 = .ok (.iaload, 1) := by decide +kernel
theorem dX4_turn_254 : decode cX4_turn 254 = .ok (.if_icmp .le 13, 3) := by decide +kernel
theorem dX4_turn_257 : decode cX4_turn 257 = .ok (.aload 5, 2) := by decide +kernel
theorem dX4_turn_259 : decode cX4_turn 259 = .ok (.iload 7, 2) := by decide +kernel
theorem dX4_turn_261 : decode cX4_turn 261 = .ok (.aload 4, 2) := by decide +kernel
theorem dX4_turn_263 : decode cX4_turn 263 = .ok (.iload 8, 2) := by decide +kernel
theorem dX4_turn_265 : decode cX4_turn 265 = .ok (.iaload, 1) := by decide +kernel
theorem dX4_turn_266 : decode cX4_turn 266 = .ok (.iastore, 1) := by decide +kernel
theorem dX4_turn_267 : decode cX4_turn 267 = .ok (.iinc 8 1, 3) := by decide +kernel
theorem dX4_turn_270 : decode cX4_turn 270 = .ok (.goto (-125), 3) := by decide +kernel
theorem dX4_turn_273 : decode cX4_turn 273 = .ok (.iinc 7 1, 3) := by decide +kernel
theorem dX4_turn_276 : decode cX4_turn 276 = .ok (.goto (-217), 3) := by decide +kernel
theorem dX4_turn_279 : decode cX4_turn 279 = .ok (.aload_n 0, 1) := by decide +kernel
theorem dX4_turn_280 : decode cX4_turn 280 = .ok (.getfield 23, 3) := by decide +kernel
theorem dX4_turn_283 : decode cX4_turn 283 = .ok (.iload_n 1, 1) := by decide +kernel
theorem dX4_turn_284 : decode cX4_turn 284 = .ok (.aload 5, 2) := by decide +kernel
theorem dX4_turn_286 : decode cX4_turn 286 = .ok (.aastore, 1) := by decide +kernel
theorem dX4_turn_287 : decode cX4_turn 287 = .ok (.aload_n 0, 1) := by decide +kernel
theorem dX4_turn_288 : decode cX4_turn 288 = .ok (.getfield 10, 3) := by decide +kernel
theorem dX4_turn_291 : decode cX4_turn 291 = .ok (.iload_n 1, 1) := by decide +kernel
theorem dX4_turn_292 : decode cX4_turn 292 = .ok (.iload_n 2, 1) := by decide +kernel
theorem dX4_turn_293 : decode cX4_turn 293 = .ok (.iload_n 3, 1) := by decide +kernel
theorem dX4_turn_294 : decode cX4_turn 294 = .ok (.invokevirtual 139, 3) := by decide +kernel
theorem dX4_turn_297 : decode cX4_turn 297 = .ok (.aload 5, 2) := by decide +kernel
theorem dX4_turn_299 : decode cX4_turn 299 = .ok (.invokestatic 126, 3) := by decide +kernel
theorem dX4_turn_302 : decode cX4_turn 302 = .ok (.if_icmp .ne 7, 3) := by decide +kernel
theorem dX4_turn_305 : decode cX4_turn 305 = .ok (.iconst 1, 1) := by decide +kernel
theorem dX4_turn_306 : decode cX4_turn 306 = .ok (.goto 4, 3) := by decide +kernel
theorem dX4_turn_309 : decode cX4_turn 309 = .ok (.iconst 0, 1) := by decide +kernel
theorem dX4_turn_310 : decode cX4_turn 310 = .ok (.ireturn, 1) := by decide +kernel
set_option maxRecDepth 20000 in
theorem ggX4_thick_X4_isIn : GoodIn wsX4_thick wsX4_isIn := goodIn_r _ [5] (by decide +kernel) (by decide +kernel)
set_option maxRecDepth 20000 in
theorem gX4_thick_X4_isIn : GoodIn wsX4_thick (va_wsS RX4 90 yX4_isIn wsX4_isIn) := goodIn_app (goodIn_of _ (by decide +kernel)) ggX4_thick_X4_isIn
theorem dX4_thick_0 : decode cX4_thick 0 = .ok (.iconst 0, 1) := by decide +kernel
theorem dX4_thick_1 : decode cX4_thick 1 = .ok (.istore_n 3, 1) := by decide +kernel
theorem dX4_thick_2 : decode cX4_thick 2 = .ok (.iconst 0, 1) := by decide +kernel
theorem dX4_thick_3 : decode cX4_thick 3 = .ok (.istore 4, 2) := by decide +kernel
theorem dX4_thick_5 : decode cX4_thick 5 = .ok (.iload 4, 2) := by decide +kernel
theorem dX4_thick_7 : decode cX4_thick 7 = .ok (.bipush 8, 2) := by decide +kernel
theorem dX4_thick_9 : decode cX4_thick 9 = .ok (.if_icmp .ge 38, 3) := by decide +kernel
theorem dX4_thick_12 : decode cX4_thick 12 = .ok (.iload_n 1, 1) := by decide +kernel
theorem dX4_thick_13 : decode cX4_thick 13 = .ok (.iconst 1, 1) := by decide +kernel
theorem dX4_thick_14 : decode cX4_thick 14 = .ok (.iload 4, 2) := by decide +kernel
theorem dX4_thick_16 : decode cX4_thick 16 = .ok (.ishl, 1) := by decide +kernel
theorem dX4_thick_17 : decode cX4_thick 17 = .ok (.idiv, 1) := by decide +kernel
theorem dX4_thick_18 : decode cX4_thick 18 = .ok (.iconst 2, 1) := by decide +kernel
theorem dX4_thick_19 : decode cX4_thick 19 = .ok (.irem, 1) := by decide +kernel
theorem dX4_thick_20 : decode cX4_thick 20 = .ok (.iconst 1, 1) := by decide +kernel
theorem dX4_thick_21 : decode cX4_thick 21 = .ok (.if_icmp .ne 20, 3) := by decide +kernel
theorem dX4_thick_24 : decode cX4_thick 24 = .ok (.aload_n 0, 1) := by decide +kernel
theorem dX4_thick_25 : decode cX4_thick 25 = .ok (.getfield 18, 3) := by decide +kernel
theorem dX4_thick_28 : decode cX4_thick 28 = .ok (.iload 4, 2) := by decide +kernel
theorem dX4_thick_30 : decode cX4_thick 30 = .ok (.aaload, 1) := by decide +kernel
theorem dX4_thick_31 : decode cX4_thick 31 = .ok (.iload_n 2, 1) := by decide +kernel
theorem dX4_thick_32 : decode cX4_thick 32 = .ok (.invokestatic 90, 3) := by decide +kernel
theorem dX4_thick_35 : decode cX4_thick 35 = .ok (.ifCond .eq 6, 3) := by decide +kernel
theorem dX4_thick_38 : decode cX4_thick 38 = .ok (.iinc 3 1, 3) := by decide +kernel
theorem dX4_thick_41 : decode cX4_thick 41 = .ok (.iinc 4 1, 3) := by decide +kernel
theorem dX4_thick_44 : decode cX4_thick 44 = .ok (.goto (-39), 3) := by decide +kernel
theorem dX4_thick_47 : decode cX4_thick 47 = .ok (.iload_n 3, 1) := by decide +kernel
theorem dX4_thick_48 : decode cX4_thick 48 = .ok (.ireturn, 1) := by decide +kernel
set_option maxRecDepth 20000 in
theorem ggX4_thick__X4_draw : GoodIn wsX4_thick_ wsX4_draw := goodIn_r _ [7, 8, 9, 10, 11, 12, 13, 14, 15, 16, 85, 86, 87, 88, 89] (by decide +kernel) (by decide +kernel)
set_option maxRecDepth 20000 in
theorem gX4_thick__X4_draw : GoodIn wsX4_thick_ (wsV RX4 62 RX4 yX4_draw wsX4_draw) := goodIn_app (goodIn_of _ (by decide +kernel)) ggX4_thick__X4_draw
set_option maxRecDepth 20000 in
theorem ggX4_thick__X4_thick : GoodIn wsX4_thick_ wsX4_thick := goodIn_r _ [20, 21, 22, 23, 6, 24, 85, 86, 87, 88, 89] (by decide +kernel) (by decide +kernel)
set_option maxRecDepth 20000 in
theorem gX4_thick__X4_thick : GoodIn wsX4_thick_ (wsV RX4 142 RX4 yX4_thick wsX4_thick) := goodIn_app (goodIn_of _ (by decide +kernel)) ggX4_thick__X4_thick
set_option maxRecDepth 20000 in
theorem ggX4_thick__X3_thick : GoodIn wsX4_thick_ wsX3_thick := goodIn_ca (goodIn_ca (goodIn_r _ [29, 30, 31, 32, 28, 33, 34, 35, 36, 37, 38, 39, 40, 41, 42, 43, 44, 45, 46, 47, 48, 49, 50, 51, 52, 53, 54, 55, 56, 57, 58, 59, 60, 61, 62, 63, 64, 65, 66, 67, 68, 69, 70, 71, 72, 73, 74, 75, 76, 77, 78, 79, 80, 81, 90, 91, 92, 93, 94, 95, 96, 97] (by decide +kernel) (by decide +kernel)) (goodIn_sub (fun _ h => List.mem_cons_of_mem _ (List.mem_append_left _ (List.mem_append_right _ h))) (by decide +kernel))) (goodIn_sub (fun _ h => List.mem_cons_of_mem _ (List.mem_append_right _ h)) (by decide +kernel))
set_option maxRecDepth 20000 in
theorem gX4_thick__X3_thick : GoodIn wsX4_thick_ (wsV RX4 145 RX3 yX3_thick wsX3_thick) := goodIn_app (goodIn_of _ (by decide +kernel)) ggX4_thick__X3_thick
set_option maxRecDepth 20000 in
theorem ggX4_thick__X4_steps : GoodIn wsX4_thick_ wsX4_steps := goodIn_r _ [84] (by decide +kernel) (by decide +kernel)
set_option maxRecDepth 20000 in
theorem gX4_thick__X4_steps : GoodIn wsX4_thick_ (va_wsS RX4 126 yX4_steps wsX4_steps) := goodIn_app (goodIn_of _ (by decide +kernel)) ggX4_thick__X4_steps
theorem dX4_thick__0 : decode cX4_thick_ 0 = .ok (.aload_n 0, 1) := by decide +kernel
theorem dX4_thick__1 : decode cX4_thick_ 1 = .ok (.iconst 5, 1) := by decide +kernel
theorem dX4_thick__2 : decode cX4_thick_ 2 = .ok (.invokevirtual 62, 3) := by decide +kernel
theorem dX4_thick__5 : decode cX4_thick_ 5 = .ok (.istore_n 1, 1) := by decide +kernel
theorem dX4_thick__6 : decode cX4_thick_ 6 = .ok (.aload_n 0, 1) := by decide +kernel
theorem dX4_thick__7 : decode cX4_thick_ 7 = .ok (.sipush 256, 3) := by decide +kernel
theorem dX4_thick__10 : decode cX4_thick_ 10 = .ok (.invokevirtual 62, 3) := by decide +kernel
theorem dX4_thick__13 : decode cX4_thick_ 13 = .ok (.istore_n 2, 1) := by decide +kernel
theorem dX4_thick__14 : decode cX4_thick_ 14 = .ok (.iconst 0, 1) := by decide +kernel
theorem dX4_thick__15 : decode cX4_thick_ 15 = .ok (.istore_n 3, 1) := by decide +kernel
theorem dX4_thick__16 : decode cX4_thick_ 16 = .ok (.iload_n 3, 1) := by decide +kernel
theorem dX4_thick__17 : decode cX4_thick_ 17 = .ok (.sipush 200, 3) := by decide +kernel
theorem dX4_thick__20 : decode cX4_thick_ 20 = .ok (.if_icmp .gt 23, 3) := by decide +kernel
theorem dX4_thick__23 : decode cX4_thick_ 23 = .ok (.aload_n 0, 1) := by decide +kernel
theorem dX4_thick__24 : decode cX4_thick_ 24 = .ok (.getfield 23, 3) := by decide +kernel
theorem dX4_thick__27 : decode cX4_thick_ 27 = .ok (.iload_n 1, 1) := by decide +kernel
theorem dX4_thick__28 : decode cX4_thick_ 28 = .ok (.aaload, 1) := by decide +kernel
theorem dX4_thick__29 : decode cX4_thick_ 29 = .ok (.iload_n 3, 1) := by decide +kernel
theorem dX4_thick__30 : decode cX4_thick_ 30 = .ok (.aload_n 0, 1) := by decide +kernel
theorem dX4_thick__31 : decode cX4_thick_ 31 = .ok (.iload_n 2, 1) := by decide +kernel
theorem dX4_thick__32 : decode cX4_thick_ 32 = .ok (.iload_n 3, 1) := by decide +kernel
theorem dX4_thick__33 : decode cX4_thick_ 33 = .ok (.invokevirtual 142, 3) := by decide +kernel
theorem dX4_thick__36 : decode cX4_thick_ 36 = .ok (.iastore, 1) := by decide +kernel
theorem dX4_thick__37 : decode cX4_thick_ 37 = .ok (.iinc 3 1, 3) := by decide +kernel
theorem dX4_thick__40 : decode cX4_thick_ 40 = .ok (.goto (-24), 3) := by decide +kernel
theorem dX4_thick__43 : decode cX4_thick_ 43 = .ok (.aload_n 0, 1) := by decide +kernel
theorem dX4_thick__44 : decode cX4_thick_ 44 = .ok (.getfield 10, 3) := by decide +kernel
theorem dX4_thick__47 : decode cX4_thick_ 47 = .ok (.iload_n 1, 1) := by decide +kernel
theorem dX4_thick__48 : decode cX4_thick_ 48 = .ok (.iload_n 2, 1) := by decide +kernel
theorem dX4_thick__49 : decode cX4_thick_ 49 = .ok (.invokevirtual 145, 3) := by decide +kernel
theorem dX4_thick__52 : decode cX4_thick_ 52 = .ok (.aload_n 0, 1) := by decide +kernel
theorem dX4_thick__53 : decode cX4_thick_ 53 = .ok (.getfield 23, 3) := by decide +kernel
theorem dX4_thick__56 : decode cX4_thick_ 56 = .ok (.iload_n 1, 1) := by decide +kernel
theorem dX4_thick__57 : decode cX4_thick_ 57 = .ok (.aaload, 1) := by decide +kernel
theorem dX4_thick__58 : decode cX4_thick_ 58 = .ok (.invokestatic 126, 3) := by decide +kernel
theorem dX4_thick__61 : decode cX4_thick_ 61 = .ok (.if_icmp .ne 7, 3) := by decide +kernel
theorem dX4_thick__64 : decode cX4_thick_ 64 = .ok (.iconst 1, 1) := by decide +kernel
theorem dX4_thick__65 : decode cX4_thick_ 65 = .ok (.goto 4, 3) := by decide +kernel
theorem dX4_thick__68 : decode cX4_thick_ 68 = .ok (.iconst 0, 1) := by decide +kernel
theorem dX4_thick__69 : decode cX4_thick_ 69 = .ok (.ireturn, 1) := by decide +kernel
set_option maxRecDepth 20000 in
theorem ggX4_where_X4_draw : GoodIn wsX4_where wsX4_draw := goodIn_r _ [9, 10, 11, 12, 13, 14, 15, 16, 17, 18, 75, 76, 77, 78, 79] (by decide +kernel) (by decide +kernel)
set_option maxRecDepth 20000 in
theorem gX4_where_X4_draw : GoodIn wsX4_where (wsV RX4 62 RX4 yX4_draw wsX4_draw) := goodIn_app (goodIn_of _ (by decide +kernel)) ggX4_where_X4_draw
set_option maxRecDepth 20000 in
theorem ggX4_where_X4_spans : GoodIn wsX4_where wsX4_spans := goodIn_r _ [21, 22, 23, 24, 25, 8, 26, 27, 28, 29, 30] (by decide +kernel) (by decide +kernel)
set_option maxRecDepth 20000 in
theorem gX4_where_X4_spans : GoodIn wsX4_where (va_wsS RX4 82 yX4_spans wsX4_spans) := goodIn_app (goodIn_of _ (by decide +kernel)) ggX4_where_X4_spans
set_option maxRecDepth 20000 in
theorem ggX4_where_X3_where : GoodIn wsX4_where wsX3_where := goodIn_ca (goodIn_r _ [35, 36, 37, 38, 34, 39, 40, 41, 42, 43, 44, 45, 46, 47, 48, 49, 50, 51, 52, 53, 54, 55, 56, 57, 58, 59, 60, 61, 62, 63, 64, 65, 66, 67, 68, 69, 70, 71, 80, 81, 82, 83, 84, 85, 86, 87] (by decide +kernel) (by decide +kernel)) (goodIn_sub (fun _ h => List.mem_cons_of_mem _ (List.mem_append_right _ h)) (by decide +kernel))
set_option maxRecDepth 20000 in
theorem gX4_where_X3_where : GoodIn wsX4_where (wsV RX4 146 RX3 yX3_where wsX3_where) := goodIn_app (goodIn_of _ (by decide +kernel)) ggX4_where_X3_where
set_option maxRecDepth 20000 in
theorem ggX4_where_X4_count : GoodIn wsX4_where wsX4_count := goodIn_r _ [74] (by decide +kernel) (by decide +kernel)
set_option maxRecDepth 20000 in
theorem gX4_where_X4_count : GoodIn wsX4_where (va_wsS RX4 98 yX4_count wsX4_count) := goodIn_app (goodIn_of _ (by decide +kernel)) ggX4_where_X4_count
theorem dX4_where_0 : decode cX4_where 0 = .ok (.aload_n 0, 1) := by decide +kernel
theorem dX4_where_1 : decode cX4_where 1 = .ok (.bipush 8, 2) := by decide +kernel
theorem dX4_where_3 : decode cX4_where 3 = .ok (.invokevirtual 62, 3) := by decide +kernel
theorem dX4_where_6 : decode cX4_where 6 = .ok (.istore_n 1, 1) := by decide +kernel
theorem dX4_where_7 : decode cX4_where 7 = .ok (.aload_n 0, 1) := by decide +kernel
theorem dX4_where_8 : decode cX4_where 8 = .ok (.iconst 5, 1) := by decide +kernel
theorem dX4_where_9 : decode cX4_where 9 = .ok (.invokevirtual 62, 3) := by decide +kernel
theorem dX4_where_12 : decode cX4_where 12 = .ok (.istore_n 2, 1) := by decide +kernel
theorem dX4_where_13 : decode cX4_where 13 = .ok (.aload_n 0, 1) := by decide +kernel
theorem dX4_where_14 : decode cX4_where 14 = .ok (.bipush 20, 2) := by decide +kernel
theorem dX4_where_16 : decode cX4_where 16 = .ok (.invokevirtual 62, 3) := by decide +kernel
theorem dX4_where_19 : decode cX4_where 19 = .ok (.iconst 5, 1) := by decide +kernel
theorem dX4_where_20 : decode cX4_where 20 = .ok (.isub, 1) := by decide +kernel
theorem dX4_where_21 : decode cX4_where 21 = .ok (.istore_n 3, 1) := by decide +kernel
theorem dX4_where_22 : decode cX4_where 22 = .ok (.iload_n 3, 1) := by decide +kernel
theorem dX4_where_23 : decode cX4_where 23 = .ok (.aload_n 0, 1) := by decide +kernel
theorem dX4_where_24 : decode cX4_where 24 = .ok (.bipush 12, 2) := by decide +kernel
theorem dX4_where_26 : decode cX4_where 26 = .ok (.invokevirtual 62, 3) := by decide +kernel
theorem dX4_where_29 : decode cX4_where 29 = .ok (.iadd, 1) := by decide +kernel
theorem dX4_where_30 : decode cX4_where 30 = .ok (.iconst 1, 1) := by decide +kernel
theorem dX4_where_31 : decode cX4_where 31 = .ok (.isub, 1) := by decide +kernel
theorem dX4_where_32 : decode cX4_where 32 = .ok (.istore 4, 2) := by decide +kernel
theorem dX4_where_34 : decode cX4_where 34 = .ok (.sipush 201, 3) := by decide +kernel
theorem dX4_where_37 : decode cX4_where 37 = .ok (.newarray .boolean, 2) := by decide +kernel
theorem dX4_where_39 : decode cX4_where 39 = .ok (.astore 5, 2) := by decide +kernel
theorem dX4_where_41 : decode cX4_where 41 = .ok (.iconst 0, 1) := by decide +kernel
theorem dX4_where_42 : decode cX4_where 42 = .ok (.istore 6, 2) := by decide +kernel
theorem dX4_where_44 : decode cX4_where 44 = .ok (.iload 6, 2) := by decide +kernel
theorem dX4_where_46 : decode cX4_where 46 = .ok (.sipush 200, 3) := by decide +kernel
theorem dX4_where_49 : decode cX4_where 49 = .ok (.if_icmp .gt 46, 3) := by decide +kernel
theorem dX4_where_52 : decode cX4_where 52 = .ok (.aload 5, 2) := by decide +kernel
theorem dX4_where_54 : decode cX4_where 54 = .ok (.iload 6, 2) := by decide +kernel
theorem dX4_where_56 : decode cX4_where 56 = .ok (.aload_n 0, 1) := by decide +kernel
theorem dX4_where_57 : decode cX4_where 57 = .ok (.getfield 23, 3) := by decide +kernel
theorem dX4_where_60 : decode cX4_where 60 = .ok (.iload_n 2, 1) := by decide +kernel
theorem dX4_where_61 : decode cX4_where 61 = .ok (.aaload, 1) := by decide +kernel
theorem dX4_where_62 : decode cX4_where 62 = .ok (.iload 6, 2) := by decide +kernel
theorem dX4_where_64 : decode cX4_where 64 = .ok (.iaload, 1) := by decide +kernel
theorem dX4_where_65 : decode cX4_where 65 = .ok (.iload_n 3, 1) := by decide +kernel
theorem dX4_where_66 : decode cX4_where 66 = .ok (.if_icmp .lt 21, 3) := by decide +kernel
theorem dX4_where_69 : decode cX4_where 69 = .ok (.aload_n 0, 1) := by decide +kernel
theorem dX4_where_70 : decode cX4_where 70 = .ok (.getfield 23, 3) := by decide +kernel
theorem dX4_where_73 : decode cX4_where 73 = .ok (.iload_n 2, 1) := by decide +kernel
theorem dX4_where_74 : decode cX4_where 74 = .ok (.aaload, 1) := by decide +kernel
theorem dX4_where_75 : decode cX4_where 75 = .ok (.iload 6, 2) := by decide +kernel
theorem dX4_where_77 : decode cX4_where 77 = .ok (.iaload, 1) := by decide +kernel
theorem dX4_where_78 : decode cX4_where 78 = .ok (.iload 4, 2) := by decide +kernel
theorem dX4_where_80 : decode cX4_where 80 = .ok (.if_icmp .gt 7, 3) := by decide +kernel
theorem dX4_where_83 : decode cX4_where 83 = .ok (.iconst 1, 1) := by decide +kernel
theorem dX4_where_84 : decode cX4_where 84 = .ok (.goto 4, 3) := by decide +kernel
theorem dX4_where_87 : decode cX4_where 87 = .ok (.iconst 0, 1) := by decide +kernel
theorem dX4_where_88 : decode cX4_where 88 = .ok (.bastore, 1) := by decide +kernel
theorem dX4_where_89 : decode cX4_where 89 = .ok (.iinc 6 1, 3) := by decide +kernel
theorem dX4_where_92 : decode cX4_where 92 = .ok (.goto (-48), 3) := by decide +kernel
theorem dX4_where_95 : decode cX4_where 95 = .ok (.aload_n 0, 1) := by decide +kernel
theorem dX4_where_96 : decode cX4_where 96 = .ok (.getfield 18, 3) := by decide +kernel
theorem dX4_where_99 : decode cX4_where 99 = .ok (.iload_n 1, 1) := by decide +kernel
theorem dX4_where_100 : decode cX4_where 100 = .ok (.aload 5, 2) := by decide +kernel
theorem dX4_where_102 : decode cX4_where 102 = .ok (.invokestatic 82, 3) := by decide +kernel
theorem dX4_where_105 : decode cX4_where 105 = .ok (.aastore, 1) := by decide +kernel
theorem dX4_where_106 : decode cX4_where 106 = .ok (.aload_n 0, 1) := by decide +kernel
theorem dX4_where_107 : decode cX4_where 107 = .ok (.getfield 10, 3) := by decide +kernel
theorem dX4_where_110 : decode cX4_where 110 = .ok (.iload_n 1, 1) := by decide +kernel
theorem dX4_where_111 : decode cX4_where 111 = .ok (.iload_n 2, 1) := by decide +kernel
theorem dX4_where_112 : decode cX4_where 112 = .ok (.iload_n 3, 1) := by decide +kernel
theorem dX4_where_113 : decode cX4_where 113 = .ok (.iload 4, 2) := by decide +kernel
theorem dX4_where_115 : decode cX4_where 115 = .ok (.invokevirtual 146, 3) := by decide +kernel
theorem dX4_where_118 : decode cX4_where 118 = .ok (.aload_n 0, 1) := by decide +kernel
theorem dX4_where_119 : decode cX4_where 119 = .ok (.getfield 18, 3) := by decide +kernel
theorem dX4_where_122 : decode cX4_where 122 = .ok (.iload_n 1, 1) := by decide +kernel
theorem dX4_where_123 : decode cX4_where 123 = .ok (.aaload, 1) := by decide +kernel
theorem dX4_where_124 : decode cX4_where 124 = .ok (.invokestatic 98, 3) := by decide +kernel
theorem dX4_where_127 : decode cX4_where 127 = .ok (.if_icmp .ne 7, 3) := by decide +kernel
theorem dX4_where_130 : decode cX4_where 130 = .ok (.iconst 1, 1) := by decide +kernel
theorem dX4_where_131 : decode cX4_where 131 = .ok (.goto 4, 3) := by decide +kernel
theorem dX4_where_134 : decode cX4_where 134 = .ok (.iconst 0, 1) := by decide +kernel
theorem dX4_where_135 : decode cX4_where 135 = .ok (.ireturn, 1) := by decide +kernel
set_option maxRecDepth 20000 in
theorem ggX4_found_X4_span : GoodIn wsX4_found wsX4_span := goodIn_ca (goodIn_ca (goodIn_r _ [5, 6, 7, 8, 9, 10, 4, 11, 12, 13, 14, 15, 16, 17, 18, 19, 20, 21, 22, 23, 24, 25, 26, 27, 28, 29, 30, 31, 32, 33, 34, 35, 36, 37, 38, 39, 40, 41, 42, 43, 44, 45, 46, 47, 48, 49, 50, 51, 52, 53, 54, 55, 56, 57, 58, 59, 60, 61, 62, 63, 64, 65, 66, 67, 68, 69, 70, 71, 72, 73, 74, 75, 76, 77, 78, 79, 80, 81, 82, 83, 84, 85, 86, 87, 88, 89, 90, 91, 92, 157, 158, 159, 160, 161, 162, 163, 164, 165, 166, 167, 168] (by decide +kernel) (by decide +kernel)) (goodIn_sub (fun _ h => List.mem_cons_of_mem _ (List.mem_append_left _ (List.mem_append_right _ h))) (by decide +kernel))) (goodIn_sub (fun _ h => List.mem_cons_of_mem _ (List.mem_append_right _ h)) (by decide +kernel))
set_option maxRecDepth 20000 in
theorem gX4_found_X4_span : GoodIn wsX4_found (wsV RX4 149 RX4 yX4_span wsX4_span) := goodIn_app (goodIn_of _ (by decide +kernel)) ggX4_found_X4_span
set_option maxRecDepth 20000 in
theorem ggX4_found_X4_raise : GoodIn wsX4_found wsX4_raise := goodIn_ca (goodIn_ca (goodIn_r _ [96, 97, 7, 8, 9, 10, 4, 11, 12, 13, 14, 15, 16, 17, 18, 19, 20, 21, 22, 23, 24, 25, 26, 27, 28, 29, 30, 31, 32, 98, 99, 100, 101, 102, 103, 51, 104, 67, 68, 105, 106, 107, 108, 57, 58, 109, 64, 65, 66, 69, 70, 71, 75, 76, 77, 72, 73, 74, 110, 111, 112, 113, 114, 115, 116, 117, 118, 119, 120, 121, 122, 123, 124, 125, 126, 127, 128, 129, 157, 158, 159, 160, 161, 162, 163, 164, 165, 166, 167, 169] (by decide +kernel) (by decide +kernel)) (goodIn_sub (fun _ h => List.mem_cons_of_mem _ (List.mem_append_right _ h)) (by decide +kernel))) (goodIn_sub (fun _ h => List.mem_cons_of_mem _ (List.mem_append_left _ (List.mem_append_right _ h))) (by decide +kernel))
set_option maxRecDepth 20000 in
theorem gX4_found_X4_raise : GoodIn wsX4_found (wsV RX4 152 RX4 yX4_raise wsX4_raise) := goodIn_app (goodIn_of _ (by decide +kernel)) ggX4_found_X4_raise
set_option maxRecDepth 20000 in
theorem ggX4_found_X4_thick_ : GoodIn wsX4_found wsX4_thick_ := goodIn_ca (goodIn_ca (goodIn_r _ [133, 97, 7, 8, 9, 10, 4, 11, 12, 13, 14, 15, 16, 17, 18, 19, 20, 134, 135, 136, 137, 6, 138, 139, 140, 141, 142, 143, 51, 144, 105, 106, 107, 108, 57, 58, 109, 145, 146, 147, 67, 68, 148, 149, 150, 151, 152, 153, 154, 155, 59, 60, 61, 62, 63, 156, 85, 86, 81, 87, 88, 116, 117, 118, 113, 119, 115, 120, 26, 27, 28, 121, 30, 31, 122, 123, 124, 125, 126, 111, 112, 114, 127, 128, 129, 157, 158, 159, 160, 161, 162, 163, 164, 165, 166, 167, 168, 169] (by decide +kernel) (by decide +kernel)) (goodIn_sub (fun _ h => List.mem_cons_of_mem _ (List.mem_append_left _ (List.mem_append_right _ h))) (by decide +kernel))) (goodIn_sub (fun _ h => List.mem_cons_of_mem _ (List.mem_append_right _ h)) (by decide +kernel))
set_option maxRecDepth 20000 in
theorem gX4_found_X4_thick_ : GoodIn wsX4_found (wsV RX4 154 RX4 yX4_thick_ wsX4_thick_) := goodIn_app (goodIn_of _ (by decide +kernel)) ggX4_found_X4_thick_
