/-! the words of change lie in those of actSet: list for list -/
theorem goodIn_c {big a : List Cond} {c : Cond} (hc : GoodIn big [c]) (ha : GoodIn big a) : GoodIn big (c :: a) := fun w h => (List.mem_cons.mp h).elim (fun e => hc w (List.mem_cons.mpr (Or.inl e))) (ha w)
set_option maxRecDepth 20000 in
theorem gq_ac0 : GoodIn wsX4_actSet [.code yX4_change cX4_change 10 (some .boolean)] := goodIn_r _ [82] (by decide +kernel) (by decide +kernel)
set_option maxRecDepth 20000 in
theorem gq_ac1 : GoodIn wsX4_actSet wsX4_change_r1 := goodIn_r _ [20, 28, 83, 84, 85, 86, 29, 21, 1, 2, 3, 4, 5, 6, 7, 8, 9, 10, 11, 12, 13, 14, 87, 88] (by decide +kernel) (by decide +kernel)
set_option maxRecDepth 20000 in
theorem gq_ac2 : GoodIn wsX4_actSet wsX4_change_r2 := goodIn_r _ [89, 90, 91, 92, 30, 31, 32, 33, 34, 35, 36, 93, 94, 95, 96, 97, 98, 40, 99, 42, 43, 44, 45, 46] (by decide +kernel) (by decide +kernel)
set_option maxRecDepth 20000 in
theorem gq_ac3 : GoodIn wsX4_actSet wsX4_change_r3 := goodIn_r _ [47, 48, 49, 50, 51, 52, 53, 54, 55, 56, 57, 100, 101, 102, 103, 104, 105, 106, 61, 107, 75, 59, 60, 62] (by decide +kernel) (by decide +kernel)
set_option maxRecDepth 20000 in
theorem gq_ac4 : GoodIn wsX4_actSet wsX4_change_r4 := goodIn_r _ [63, 108, 68, 69, 70, 109, 110, 111, 112, 113, 114, 115, 116, 117, 118, 119, 120, 121, 122, 123, 124, 125, 126, 127] (by decide +kernel) (by decide +kernel)
set_option maxRecDepth 20000 in
theorem gq_ac5 : GoodIn wsX4_actSet wsX4_change_r5 := goodIn_r _ [128, 129, 130, 131, 132, 133, 134, 135, 136, 137, 138, 139, 140, 141, 142, 143, 144, 145, 146, 147, 148, 149, 150, 151] (by decide +kernel) (by decide +kernel)
set_option maxRecDepth 20000 in
theorem gq_ac6 : GoodIn wsX4_actSet wsX4_change_r6 := goodIn_r _ [152, 153, 154, 155, 156, 157, 158, 159, 160, 161, 162, 163, 164, 165, 166, 167, 168, 169, 170, 171, 172, 173, 174, 175] (by decide +kernel) (by decide +kernel)
set_option maxRecDepth 20000 in
theorem gq_ac7 : GoodIn wsX4_actSet wsX4_change_r7 := goodIn_r _ [176, 177, 178, 179, 180, 181, 182, 183, 71, 72, 73, 74, 76, 77, 78] (by decide +kernel) (by decide +kernel)
set_option maxRecDepth 20000 in
theorem gq_ac_wsX40 : GoodIn wsX4_actSet wsX40 := goodIn_r _ [242, 243, 244, 245, 246] (by decide +kernel) (by decide +kernel)
set_option maxRecDepth 20000 in
theorem gq_ac_wsX30 : GoodIn wsX4_actSet wsX30 := goodIn_r _ [247, 248, 249, 250, 251, 252] (by decide +kernel) (by decide +kernel)
set_option maxRecDepth 20000 in
theorem gq_ac_wsX00 : GoodIn wsX4_actSet wsX00 := goodIn_r _ [253] (by decide +kernel) (by decide +kernel)
set_option maxRecDepth 20000 in
theorem gq_ac_wsX10 : GoodIn wsX4_actSet wsX10 := goodIn_r _ [254, 255, 256] (by decide +kernel) (by decide +kernel)
set_option maxRecDepth 20000 in
theorem ggX4_actSet_X4_change : GoodIn wsX4_actSet wsX4_change := goodIn_ca (goodIn_ca (goodIn_c gq_ac0 (goodIn_app (goodIn_app (goodIn_app (goodIn_app (goodIn_app gq_ac1 (goodIn_app gq_ac2 (goodIn_app gq_ac3 (goodIn_app gq_ac4 (goodIn_app gq_ac5 (goodIn_app gq_ac6 gq_ac7)))))) gq_ac_wsX40) gq_ac_wsX30) gq_ac_wsX00) gq_ac_wsX10)) (goodIn_sub (fun _ h => List.mem_cons_of_mem _ (List.mem_append_left _ (List.mem_append_right _ h))) (by decide +kernel))) (goodIn_sub (fun _ h => List.mem_cons_of_mem _ (List.mem_append_right _ h)) (by decide +kernel))
set_option maxRecDepth 20000 in
theorem gX4_actSet_X4_change : GoodIn wsX4_actSet (wsV RX4 158 RX4 yX4_change wsX4_change) := goodIn_app (goodIn_of _ (by decide +kernel)) ggX4_actSet_X4_change
