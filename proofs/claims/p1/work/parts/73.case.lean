set_option maxHeartbeats 4000000 in
set_option maxRecDepth 100000 in
theorem lc_pins {p : Program} {e : Env} {s : State} {m : MethodId} {below : List Frame} {meth : Method} {c : Code} {l : Launch} {b : Nat} {xs : Nat → Int32} {D : va_G} {T : Nat → ClassId} {ad : Nat → Nat} {m0 o o2 : Nat} {H : Heap} {locs : List Loc} {ls : Array Slot} {Q : State → Prop} (hlt : l.stackTraces = false) (hx : p.tables.exec = Jvm.exec) (hb : c.code = cL_law) (hr : meth.sig.returnType = ret) (hml : c.maxLocals = 9) (hown : s.vm.findClass RL = some m.cls) (hts : ∀ w ∈ wsL_law, w.before #[Value.ref b] s = true) (hK : KB D T s) (hKX : KX s.heap.size s) (hNc : va_Nc IAE IOB s) (hX : va_X b 6 xs s s.heap) (hbl : b < s.heap.size) (hS : va_S (fun q : Nat => s.heap.size ≤ q) s.heap H locs) (hw : PLW D T ad zz2 zz2 sr0 zr0 H) (hm : MF D T m0 (nI 0) H) (ho : pAt D H o (eL (T 6) 1 (fun _ => 0))) (ho2 : pAt D H o2 (eD (T 7) 1 (fun _ => 0))) (had : ∀ i : Nat, i < 37 → s.heap.size ≤ ad i ∧ ad i < m0) (hmo : m0 + 16 ≤ o) (hoo : o < o2) (hl : lv_has ls 9 [(5, .int (nI 0)), (4, .ref o2), (3, .ref o), (2, .ref m0), (1, .ref (ad 0)), (0, .ref b)]) (kk : ∀ (H1 : Heap) (locs1 : List Loc) (ls1 : Array Slot), va_S (fun q : Nat => s.heap.size ≤ q) s.heap H1 locs1 → lv_has ls1 9 [(5, .int (nI 0)), (0, .ref b)] → W p l e room_1 s m #[Value.ref b] below meth c H1 locs1 1000 100000 Q (F0 m 2402 ls1 [])) : W p l e room_1 s m #[Value.ref b] below meth c H locs 100 10000 Q (F0 m 2036 ls []) := by
  refine lv_aload_n hx hb dL_law_2036 rfl (lv_at hl 4 rfl) ?_
  refine lv_aload_n hx hb dL_law_2037 rfl (lv_at hl 5 rfl) ?_
  refine lv_iload hx hb dL_law_2038 (lv_at hl 0 rfl) ?_
  refine lv_iconst (v := nI 1) hx hb dL_law_2040 (by decide) ?_
  refine lv_iadd hx hb dL_law_2041 ?_
  rw [nI_add]
  refine q_sld hx hb hX hbl (Nat.not_le.mpr hbl) hS 1 rfl (by omega) dL_law_2042 ?_
  refine lv_aload_n hx hb dL_law_2043 rfl (lv_at hl 2 rfl) ?_
  obtain ⟨z1, hq1⟩ : ∃ z : Nat, z = H.size := ⟨_, rfl⟩
  have lm := hm.lt
  have lo := ho.lt
  refine va_calli (vx_runSW (As := [.ref (ad 0), .int (xs 1), .ref o]) (rest := []) ⟨hx, hb, hml, hown, hts⟩ (wr_pins l hlt D T s.heap.size z1 o ad _ (xs 1) (fun i hi => (had i hi).1) (by have := hS.1; omega) (fun i hi => by have := had i hi; omega)) (vx_cwSW 3 hts gL_law_L_pins rfl rfl rfl (by decide +kernel) ⟨Nat.le_of_ble_eq_true rfl, Nat.le_of_ble_eq_true rfl⟩) (preW hK hKX.1 (fun U hU hA => hKX.2.kept hA (fun a h1 h2 => by rw [hU]; exact hS.2.1 a h1 h2)) hNc ⟨hq1.symm, hw, ho⟩) rfl rfl hl.1 rfl (lv_room (Nat.le_of_ble_eq_true rfl)) dL_law_2044 ⟨Nat.le_of_ble_eq_true rfl, Nat.le_of_ble_eq_true rfl⟩) hS (fun q _ h9 => wa_N had (by have := had 0 (by omega); omega) (by have := hS.1; omega) h9) (fun q h9 => wa_N had (by have := had 0 (by omega); omega) (by have := hS.1; omega) h9) (fun r u t H1 locs1 ht hvm hr9 hB hz8 hk1 hS => ?_)
  try dsimp only at hB
  rw [ht] at hB
  replace hm := hm.kept hk1 (fun q h7 h8 => wa_m had (by omega) (by omega) h7 h8)
  obtain ⟨g, hg1, hg2⟩ := hB
  rw [hr9]
  refine lv_istore (lv' := [(6, .int (tw_pins (xs 1))), (5, .int (nI 0)), (4, .ref o2), (3, .ref o), (2, .ref m0), (1, .ref (ad 0)), (0, .ref b)]) hx hb dL_law_2047 hl (by decide) rfl (fun ls hl => ?_)
  refine lv_aload_n hx hb dL_law_2049 rfl (lv_at hl 4 rfl) ?_
  refine lv_aload_n hx hb dL_law_2050 rfl (lv_at hl 6 rfl) ?_
  refine lv_iload hx hb dL_law_2051 (lv_at hl 1 rfl) ?_
  refine lv_iconst (v := nI 1) hx hb dL_law_2053 (by decide) ?_
  refine lv_iadd hx hb dL_law_2054 ?_
  rw [nI_add]
  refine q_sld hx hb hX hbl (Nat.not_le.mpr hbl) hS 1 rfl (by omega) dL_law_2055 ?_
  obtain ⟨z2, hq2⟩ : ∃ z : Nat, z = H1.size := ⟨_, rfl⟩
  have lm2 := hm.lt
  have lg := hg1.lt
  refine va_calli (va_runV (As := [.int (xs 1)]) (rest := []) ⟨hx, hb, hml, hown, hts⟩ (conX4_pins l D T z2 m0 (nI 0) (xs 1)) (cwV 1 hts gL_law_X4_pins rfl rfl rfl (by decide +kernel) ⟨Nat.le_of_ble_eq_true rfl, Nat.le_of_ble_eq_true rfl⟩) (preV hK hm.o rfl ⟨hq2.symm, hm⟩) rfl rfl hl.1 rfl (lv_room (Nat.le_of_ble_eq_true rfl)) dL_law_2056 ⟨Nat.le_of_ble_eq_true rfl, Nat.le_of_ble_eq_true rfl⟩) hS (fun q _ h9 => ma_N (had 0 (by omega)) (by have := hS.1; omega) h9) (fun q h9 => ma_N (had 0 (by omega)) (by have := hS.1; omega) h9) (fun r2 u2 t2 H2 locs2 ht2 hvm2 hr2 hB2 hz9 hk2 hS => ?_)
  try dsimp only at hB2
  rw [ht2] at hB2
  replace hg1 := hg1.kept (hk2 _ hg1.lt (fun h9 => ma_o (by omega) (by omega) h9))
  obtain ⟨vs, vv, hmt⟩ := hB2
  refine lv_istore (lv' := [(7, .int r2), (6, .int (tw_pins (xs 1))), (5, .int (nI 0)), (4, .ref o2), (3, .ref o), (2, .ref m0), (1, .ref (ad 0)), (0, .ref b)]) hx hb dL_law_2059 hl (by decide) rfl (fun ls hl => ?_)
  refine lv_aload_n hx hb dL_law_2061 rfl (lv_at hl 5 rfl) ?_
  refine vp_callSi (va_runV (As := []) (rest := []) ⟨hx, hb, hml, hown, hts⟩ (conX4_thrown l D T m0 (tw_pins (xs 1)) vs vv) (cwV 0 hts gL_law_X4_thrown rfl rfl rfl (by decide +kernel) ⟨Nat.le_of_ble_eq_true rfl, Nat.le_of_ble_eq_true rfl⟩) (preV hK hmt rfl hmt) rfl rfl hl.1 rfl (lv_room (Nat.le_of_ble_eq_true rfl)) dL_law_2062 ⟨Nat.le_of_ble_eq_true rfl, Nat.le_of_ble_eq_true rfl⟩).run (fun r3 hr3 => ?_)
  rw [hr3]
  refine lv_iload hx hb dL_law_2065 (lv_at hl 1 rfl) ?_
  refine lv_icmp_eq (tgt := 2072) hx hb dL_law_2067 (by decide) (fun c2067 => ?_) (fun c2067 => ?_)
  · skip
    refine lv_iload hx hb dL_law_2072 (lv_at hl 1 rfl) ?_
    refine lv_if_ne (tgt := 2089) hx hb dL_law_2074 (by decide) (fun c2074 => ?_) (fun c2074 => ?_)
    · skip
      refine lv_goto (tgt := 2402) hx hb dL_law_2089 (by decide) ?_
      refine W.widen (k := 1000) (n := 100000) (by decide) (by decide) ?_
      exact kk _ _ _ hS (lv_sub hl [2, 7] rfl)
    · skip
      refine lv_aload_n hx hb dL_law_2077 rfl (lv_at hl 4 rfl) ?_
      refine lv_iconst (v := nI 0) hx hb dL_law_2078 (by decide) ?_
      refine q_lald hx hb hK hg1 0 (rfl) (by omega) (by decide) dL_law_2079 ?_
      refine lv_iload hx hb dL_law_2080 (lv_at hl 0 rfl) ?_
      refine lv_i2l (v := r2.toInt64) hx hb dL_law_2082 rfl ?_
      refine W.lcmp hx hb dL_law_2083 ?_
      have hv9 : lg_cmp (g 0) r2.toInt64 = 0 := by rw [hg2 c2074, hr2 c2074]; exact lg_z _
      refine lv_if_eq (tgt := 2089) hx hb dL_law_2084 (by decide) (fun c2084 => ?_) (fun c2084 => ?_)
      · skip
        refine lv_goto (tgt := 2402) hx hb dL_law_2089 (by decide) ?_
        refine W.widen (k := 1000) (n := 100000) (by decide) (by decide) ?_
        exact kk _ _ _ hS (lv_sub hl [2, 7] rfl)
      · skip
        exact absurd hv9 c2084
  · skip
    exact absurd rfl c2067

set_option maxHeartbeats 4000000 in
set_option maxRecDepth 100000 in
theorem lc_meetWith {p : Program} {e : Env} {s : State} {m : MethodId} {below : List Frame} {meth : Method} {c : Code} {l : Launch} {b : Nat} {xs : Nat → Int32} {D : va_G} {T : Nat → ClassId} {ad : Nat → Nat} {m0 o o2 : Nat} {H : Heap} {locs : List Loc} {ls : Array Slot} {Q : State → Prop} (hlt : l.stackTraces = false) (hx : p.tables.exec = Jvm.exec) (hb : c.code = cL_law) (hr : meth.sig.returnType = ret) (hml : c.maxLocals = 9) (hown : s.vm.findClass RL = some m.cls) (hts : ∀ w ∈ wsL_law, w.before #[Value.ref b] s = true) (hK : KB D T s) (hKX : KX s.heap.size s) (hNc : va_Nc IAE IOB s) (hX : va_X b 6 xs s s.heap) (hbl : b < s.heap.size) (hS : va_S (fun q : Nat => s.heap.size ≤ q) s.heap H locs) (hw : PLW D T ad zz2 zz2 sr0 zr0 H) (hm : MF D T m0 (nI 0) H) (ho : pAt D H o (eL (T 6) 1 (fun _ => 0))) (ho2 : pAt D H o2 (eD (T 7) 1 (fun _ => 0))) (had : ∀ i : Nat, i < 37 → s.heap.size ≤ ad i ∧ ad i < m0) (hmo : m0 + 16 ≤ o) (hoo : o < o2) (hl : lv_has ls 9 [(5, .int (nI 0)), (4, .ref o2), (3, .ref o), (2, .ref m0), (1, .ref (ad 0)), (0, .ref b)]) (kk : ∀ (H1 : Heap) (locs1 : List Loc) (ls1 : Array Slot), va_S (fun q : Nat => s.heap.size ≤ q) s.heap H1 locs1 → lv_has ls1 9 [(5, .int (nI 0)), (0, .ref b)] → W p l e room_1 s m #[Value.ref b] below meth c H1 locs1 1000 100000 Q (F0 m 2402 ls1 [])) : W p l e room_1 s m #[Value.ref b] below meth c H locs 100 10000 Q (F0 m 2092 ls []) := by
  refine lv_aload_n hx hb dL_law_2092 rfl (lv_at hl 4 rfl) ?_
  refine lv_aload_n hx hb dL_law_2093 rfl (lv_at hl 5 rfl) ?_
  refine lv_iload hx hb dL_law_2094 (lv_at hl 0 rfl) ?_
  refine lv_iconst (v := nI 1) hx hb dL_law_2096 (by decide) ?_
  refine lv_iadd hx hb dL_law_2097 ?_
  rw [nI_add]
  refine q_sld hx hb hX hbl (Nat.not_le.mpr hbl) hS 1 rfl (by omega) dL_law_2098 ?_
  refine lv_aload_n hx hb dL_law_2099 rfl (lv_at hl 5 rfl) ?_
  refine lv_iload hx hb dL_law_2100 (lv_at hl 0 rfl) ?_
  refine lv_iconst (v := nI 2) hx hb dL_law_2102 (by decide) ?_
  refine lv_iadd hx hb dL_law_2103 ?_
  rw [nI_add]
  refine q_sld hx hb hX hbl (Nat.not_le.mpr hbl) hS 2 rfl (by omega) dL_law_2104 ?_
  refine lv_aload_n hx hb dL_law_2105 rfl (lv_at hl 5 rfl) ?_
  refine lv_iload hx hb dL_law_2106 (lv_at hl 0 rfl) ?_
  refine lv_iconst (v := nI 3) hx hb dL_law_2108 (by decide) ?_
  refine lv_iadd hx hb dL_law_2109 ?_
  rw [nI_add]
  refine q_sld hx hb hX hbl (Nat.not_le.mpr hbl) hS 3 rfl (by omega) dL_law_2110 ?_
  refine lv_aload_n hx hb dL_law_2111 rfl (lv_at hl 2 rfl) ?_
  obtain ⟨z1, hq1⟩ : ∃ z : Nat, z = H.size := ⟨_, rfl⟩
  have lm := hm.lt
  have lo := ho.lt
  refine va_calli (vx_runSW (As := [.ref (ad 0), .int (xs 1), .int (xs 2), .int (xs 3), .ref o]) (rest := []) ⟨hx, hb, hml, hown, hts⟩ (wr_meetWith l hlt D T s.heap.size z1 o ad _ (xs 1) (xs 2) (xs 3) (fun i hi => (had i hi).1) (by have := hS.1; omega) (fun i hi => by have := had i hi; omega)) (vx_cwSW 5 hts gL_law_L_meetWith rfl rfl rfl (by decide +kernel) ⟨Nat.le_of_ble_eq_true rfl, Nat.le_of_ble_eq_true rfl⟩) (preW hK hKX.1 (fun U hU hA => hKX.2.kept hA (fun a h1 h2 => by rw [hU]; exact hS.2.1 a h1 h2)) hNc ⟨hq1.symm, hw, ho⟩) rfl rfl hl.1 rfl (lv_room (Nat.le_of_ble_eq_true rfl)) dL_law_2112 ⟨Nat.le_of_ble_eq_true rfl, Nat.le_of_ble_eq_true rfl⟩) hS (fun q _ h9 => wa_N had (by have := had 0 (by omega); omega) (by have := hS.1; omega) h9) (fun q h9 => wa_N had (by have := had 0 (by omega); omega) (by have := hS.1; omega) h9) (fun r u t H1 locs1 ht hvm hr9 hB hz8 hk1 hS => ?_)
  try dsimp only at hB
  rw [ht] at hB
  replace hm := hm.kept hk1 (fun q h7 h8 => wa_m had (by omega) (by omega) h7 h8)
  obtain ⟨g, hg1, hg2⟩ := hB
  rw [hr9]
  refine lv_istore (lv' := [(6, .int (tw_meetWith (xs 1) (xs 2) (xs 3))), (5, .int (nI 0)), (4, .ref o2), (3, .ref o), (2, .ref m0), (1, .ref (ad 0)), (0, .ref b)]) hx hb dL_law_2115 hl (by decide) rfl (fun ls hl => ?_)
  refine lv_aload_n hx hb dL_law_2117 rfl (lv_at hl 4 rfl) ?_
  refine lv_aload_n hx hb dL_law_2118 rfl (lv_at hl 6 rfl) ?_
  refine lv_iload hx hb dL_law_2119 (lv_at hl 1 rfl) ?_
  refine lv_iconst (v := nI 1) hx hb dL_law_2121 (by decide) ?_
  refine lv_iadd hx hb dL_law_2122 ?_
  rw [nI_add]
  refine q_sld hx hb hX hbl (Nat.not_le.mpr hbl) hS 1 rfl (by omega) dL_law_2123 ?_
  refine lv_aload_n hx hb dL_law_2124 rfl (lv_at hl 6 rfl) ?_
  refine lv_iload hx hb dL_law_2125 (lv_at hl 1 rfl) ?_
  refine lv_iconst (v := nI 2) hx hb dL_law_2127 (by decide) ?_
  refine lv_iadd hx hb dL_law_2128 ?_
  rw [nI_add]
  refine q_sld hx hb hX hbl (Nat.not_le.mpr hbl) hS 2 rfl (by omega) dL_law_2129 ?_
  refine lv_aload_n hx hb dL_law_2130 rfl (lv_at hl 6 rfl) ?_
  refine lv_iload hx hb dL_law_2131 (lv_at hl 1 rfl) ?_
  refine lv_iconst (v := nI 3) hx hb dL_law_2133 (by decide) ?_
  refine lv_iadd hx hb dL_law_2134 ?_
  rw [nI_add]
  refine q_sld hx hb hX hbl (Nat.not_le.mpr hbl) hS 3 rfl (by omega) dL_law_2135 ?_
  obtain ⟨z2, hq2⟩ : ∃ z : Nat, z = H1.size := ⟨_, rfl⟩
  have lm2 := hm.lt
  have lg := hg1.lt
  refine va_calli (va_runV (As := [.int (xs 1), .int (xs 2), .int (xs 3)]) (rest := []) ⟨hx, hb, hml, hown, hts⟩ (conX4_meetWith l D T z2 m0 (nI 0) (xs 1) (xs 2) (xs 3)) (cwV 3 hts gL_law_X4_meetWith rfl rfl rfl (by decide +kernel) ⟨Nat.le_of_ble_eq_true rfl, Nat.le_of_ble_eq_true rfl⟩) (preV hK hm.o rfl ⟨hq2.symm, hm⟩) rfl rfl hl.1 rfl (lv_room (Nat.le_of_ble_eq_true rfl)) dL_law_2136 ⟨Nat.le_of_ble_eq_true rfl, Nat.le_of_ble_eq_true rfl⟩) hS (fun q _ h9 => ma_N (had 0 (by omega)) (by have := hS.1; omega) h9) (fun q h9 => ma_N (had 0 (by omega)) (by have := hS.1; omega) h9) (fun r2 u2 t2 H2 locs2 ht2 hvm2 hr2 hB2 hz9 hk2 hS => ?_)
  try dsimp only at hB2
  rw [ht2] at hB2
  replace hg1 := hg1.kept (hk2 _ hg1.lt (fun h9 => ma_o (by omega) (by omega) h9))
  obtain ⟨vs, vv, hmt⟩ := hB2
  refine lv_istore (lv' := [(7, .int r2), (6, .int (tw_meetWith (xs 1) (xs 2) (xs 3))), (5, .int (nI 0)), (4, .ref o2), (3, .ref o), (2, .ref m0), (1, .ref (ad 0)), (0, .ref b)]) hx hb dL_law_2139 hl (by decide) rfl (fun ls hl => ?_)
  refine lv_aload_n hx hb dL_law_2141 rfl (lv_at hl 5 rfl) ?_
  refine vp_callSi (va_runV (As := []) (rest := []) ⟨hx, hb, hml, hown, hts⟩ (conX4_thrown l D T m0 (tw_meetWith (xs 1) (xs 2) (xs 3)) vs vv) (cwV 0 hts gL_law_X4_thrown rfl rfl rfl (by decide +kernel) ⟨Nat.le_of_ble_eq_true rfl, Nat.le_of_ble_eq_true rfl⟩) (preV hK hmt rfl hmt) rfl rfl hl.1 rfl (lv_room (Nat.le_of_ble_eq_true rfl)) dL_law_2142 ⟨Nat.le_of_ble_eq_true rfl, Nat.le_of_ble_eq_true rfl⟩).run (fun r3 hr3 => ?_)
  rw [hr3]
  refine lv_iload hx hb dL_law_2145 (lv_at hl 1 rfl) ?_
  refine lv_icmp_eq (tgt := 2152) hx hb dL_law_2147 (by decide) (fun c2147 => ?_) (fun c2147 => ?_)
  · skip
    refine lv_iload hx hb dL_law_2152 (lv_at hl 1 rfl) ?_
    refine lv_if_ne (tgt := 2169) hx hb dL_law_2154 (by decide) (fun c2154 => ?_) (fun c2154 => ?_)
    · skip
      refine lv_goto (tgt := 2402) hx hb dL_law_2169 (by decide) ?_
      refine W.widen (k := 1000) (n := 100000) (by decide) (by decide) ?_
      exact kk _ _ _ hS (lv_sub hl [2, 7] rfl)
    · skip
      refine lv_aload_n hx hb dL_law_2157 rfl (lv_at hl 4 rfl) ?_
      refine lv_iconst (v := nI 0) hx hb dL_law_2158 (by decide) ?_
      refine q_lald hx hb hK hg1 0 (rfl) (by omega) (by decide) dL_law_2159 ?_
      refine lv_iload hx hb dL_law_2160 (lv_at hl 0 rfl) ?_
      refine lv_i2l (v := r2.toInt64) hx hb dL_law_2162 rfl ?_
      refine W.lcmp hx hb dL_law_2163 ?_
      have hv9 : lg_cmp (g 0) r2.toInt64 = 0 := by rw [hg2 c2154, hr2 c2154]; exact lg_z _
      refine lv_if_eq (tgt := 2169) hx hb dL_law_2164 (by decide) (fun c2164 => ?_) (fun c2164 => ?_)
      · skip
        refine lv_goto (tgt := 2402) hx hb dL_law_2169 (by decide) ?_
        refine W.widen (k := 1000) (n := 100000) (by decide) (by decide) ?_
        exact kk _ _ _ hS (lv_sub hl [2, 7] rfl)
      · skip
        exact absurd hv9 c2164
  · skip
    exact absurd rfl c2147

set_option maxHeartbeats 4000000 in
set_option maxRecDepth 100000 in
theorem lc_clear {p : Program} {e : Env} {s : State} {m : MethodId} {below : List Frame} {meth : Method} {c : Code} {l : Launch} {b : Nat} {xs : Nat → Int32} {D : va_G} {T : Nat → ClassId} {ad : Nat → Nat} {m0 o o2 : Nat} {H : Heap} {locs : List Loc} {ls : Array Slot} {Q : State → Prop} (hlt : l.stackTraces = false) (hx : p.tables.exec = Jvm.exec) (hb : c.code = cL_law) (hr : meth.sig.returnType = ret) (hml : c.maxLocals = 9) (hown : s.vm.findClass RL = some m.cls) (hts : ∀ w ∈ wsL_law, w.before #[Value.ref b] s = true) (hK : KB D T s) (hKX : KX s.heap.size s) (hNc : va_Nc IAE IOB s) (hX : va_X b 6 xs s s.heap) (hbl : b < s.heap.size) (hS : va_S (fun q : Nat => s.heap.size ≤ q) s.heap H locs) (hw : PLW D T ad zz2 zz2 sr0 zr0 H) (hm : MF D T m0 (nI 0) H) (ho : pAt D H o (eL (T 6) 1 (fun _ => 0))) (ho2 : pAt D H o2 (eD (T 7) 1 (fun _ => 0))) (had : ∀ i : Nat, i < 37 → s.heap.size ≤ ad i ∧ ad i < m0) (hmo : m0 + 16 ≤ o) (hoo : o < o2) (hl : lv_has ls 9 [(5, .int (nI 0)), (4, .ref o2), (3, .ref o), (2, .ref m0), (1, .ref (ad 0)), (0, .ref b)]) (kk : ∀ (H1 : Heap) (locs1 : List Loc) (ls1 : Array Slot), va_S (fun q : Nat => s.heap.size ≤ q) s.heap H1 locs1 → lv_has ls1 9 [(5, .int (nI 0)), (0, .ref b)] → W p l e room_1 s m #[Value.ref b] below meth c H1 locs1 1000 100000 Q (F0 m 2402 ls1 [])) : W p l e room_1 s m #[Value.ref b] below meth c H locs 100 10000 Q (F0 m 2172 ls []) := by
  refine lv_aload_n hx hb dL_law_2172 rfl (lv_at hl 4 rfl) ?_
  refine lv_aload_n hx hb dL_law_2173 rfl (lv_at hl 5 rfl) ?_
  refine lv_iload hx hb dL_law_2174 (lv_at hl 0 rfl) ?_
  refine lv_iconst (v := nI 1) hx hb dL_law_2176 (by decide) ?_
  refine lv_iadd hx hb dL_law_2177 ?_
  rw [nI_add]
  refine q_sld hx hb hX hbl (Nat.not_le.mpr hbl) hS 1 rfl (by omega) dL_law_2178 ?_
  refine lv_aload_n hx hb dL_law_2179 rfl (lv_at hl 5 rfl) ?_
  refine lv_iload hx hb dL_law_2180 (lv_at hl 0 rfl) ?_
  refine lv_iconst (v := nI 2) hx hb dL_law_2182 (by decide) ?_
  refine lv_iadd hx hb dL_law_2183 ?_
  rw [nI_add]
  refine q_sld hx hb hX hbl (Nat.not_le.mpr hbl) hS 2 rfl (by omega) dL_law_2184 ?_
  refine lv_aload_n hx hb dL_law_2185 rfl (lv_at hl 2 rfl) ?_
  obtain ⟨z1, hq1⟩ : ∃ z : Nat, z = H.size := ⟨_, rfl⟩
  have lm := hm.lt
  have lo := ho.lt
  refine va_calli (vx_runSW (As := [.ref (ad 0), .int (xs 1), .int (xs 2), .ref o]) (rest := []) ⟨hx, hb, hml, hown, hts⟩ (wr_clear l hlt D T s.heap.size z1 o ad _ (xs 1) (xs 2) (fun i hi => (had i hi).1) (by have := hS.1; omega) (fun i hi => by have := had i hi; omega)) (vx_cwSW 4 hts gL_law_L_clear rfl rfl rfl (by decide +kernel) ⟨Nat.le_of_ble_eq_true rfl, Nat.le_of_ble_eq_true rfl⟩) (preW hK hKX.1 (fun U hU hA => hKX.2.kept hA (fun a h1 h2 => by rw [hU]; exact hS.2.1 a h1 h2)) hNc ⟨hq1.symm, hw, ho⟩) rfl rfl hl.1 rfl (lv_room (Nat.le_of_ble_eq_true rfl)) dL_law_2186 ⟨Nat.le_of_ble_eq_true rfl, Nat.le_of_ble_eq_true rfl⟩) hS (fun q _ h9 => wa_N had (by have := had 0 (by omega); omega) (by have := hS.1; omega) h9) (fun q h9 => wa_N had (by have := had 0 (by omega); omega) (by have := hS.1; omega) h9) (fun r u t H1 locs1 ht hvm hr9 hB hz8 hk1 hS => ?_)
  try dsimp only at hB
  rw [ht] at hB
  replace hm := hm.kept hk1 (fun q h7 h8 => wa_m had (by omega) (by omega) h7 h8)
  obtain ⟨g, hg1, hg2⟩ := hB
  rw [hr9]
  refine lv_istore (lv' := [(6, .int (tw_clear (xs 1) (xs 2))), (5, .int (nI 0)), (4, .ref o2), (3, .ref o), (2, .ref m0), (1, .ref (ad 0)), (0, .ref b)]) hx hb dL_law_2189 hl (by decide) rfl (fun ls hl => ?_)
  refine lv_aload_n hx hb dL_law_2191 rfl (lv_at hl 4 rfl) ?_
  refine lv_aload_n hx hb dL_law_2192 rfl (lv_at hl 6 rfl) ?_
  refine lv_iload hx hb dL_law_2193 (lv_at hl 1 rfl) ?_
  refine lv_iconst (v := nI 1) hx hb dL_law_2195 (by decide) ?_
  refine lv_iadd hx hb dL_law_2196 ?_
  rw [nI_add]
  refine q_sld hx hb hX hbl (Nat.not_le.mpr hbl) hS 1 rfl (by omega) dL_law_2197 ?_
  refine lv_aload_n hx hb dL_law_2198 rfl (lv_at hl 6 rfl) ?_
  refine lv_iload hx hb dL_law_2199 (lv_at hl 1 rfl) ?_
  refine lv_iconst (v := nI 2) hx hb dL_law_2201 (by decide) ?_
  refine lv_iadd hx hb dL_law_2202 ?_
  rw [nI_add]
  refine q_sld hx hb hX hbl (Nat.not_le.mpr hbl) hS 2 rfl (by omega) dL_law_2203 ?_
  obtain ⟨z2, hq2⟩ : ∃ z : Nat, z = H1.size := ⟨_, rfl⟩
  have lm2 := hm.lt
  have lg := hg1.lt
  refine va_calli (va_runV (As := [.int (xs 1), .int (xs 2)]) (rest := []) ⟨hx, hb, hml, hown, hts⟩ (conX4_clear l D T z2 m0 (nI 0) (xs 1) (xs 2)) (cwV 2 hts gL_law_X4_clear rfl rfl rfl (by decide +kernel) ⟨Nat.le_of_ble_eq_true rfl, Nat.le_of_ble_eq_true rfl⟩) (preV hK hm.o rfl ⟨hq2.symm, hm⟩) rfl rfl hl.1 rfl (lv_room (Nat.le_of_ble_eq_true rfl)) dL_law_2204 ⟨Nat.le_of_ble_eq_true rfl, Nat.le_of_ble_eq_true rfl⟩) hS (fun q _ h9 => ma_N (had 0 (by omega)) (by have := hS.1; omega) h9) (fun q h9 => ma_N (had 0 (by omega)) (by have := hS.1; omega) h9) (fun r2 u2 t2 H2 locs2 ht2 hvm2 hr2 hB2 hz9 hk2 hS => ?_)
  try dsimp only at hB2
  rw [ht2] at hB2
  replace hg1 := hg1.kept (hk2 _ hg1.lt (fun h9 => ma_o (by omega) (by omega) h9))
  obtain ⟨vs, vv, hmt⟩ := hB2
  refine lv_istore (lv' := [(7, .int r2), (6, .int (tw_clear (xs 1) (xs 2))), (5, .int (nI 0)), (4, .ref o2), (3, .ref o), (2, .ref m0), (1, .ref (ad 0)), (0, .ref b)]) hx hb dL_law_2207 hl (by decide) rfl (fun ls hl => ?_)
  refine lv_aload_n hx hb dL_law_2209 rfl (lv_at hl 5 rfl) ?_
  refine vp_callSi (va_runV (As := []) (rest := []) ⟨hx, hb, hml, hown, hts⟩ (conX4_thrown l D T m0 (tw_clear (xs 1) (xs 2)) vs vv) (cwV 0 hts gL_law_X4_thrown rfl rfl rfl (by decide +kernel) ⟨Nat.le_of_ble_eq_true rfl, Nat.le_of_ble_eq_true rfl⟩) (preV hK hmt rfl hmt) rfl rfl hl.1 rfl (lv_room (Nat.le_of_ble_eq_true rfl)) dL_law_2210 ⟨Nat.le_of_ble_eq_true rfl, Nat.le_of_ble_eq_true rfl⟩).run (fun r3 hr3 => ?_)
  rw [hr3]
  refine lv_iload hx hb dL_law_2213 (lv_at hl 1 rfl) ?_
  refine lv_icmp_eq (tgt := 2220) hx hb dL_law_2215 (by decide) (fun c2215 => ?_) (fun c2215 => ?_)
  · skip
    refine lv_iload hx hb dL_law_2220 (lv_at hl 1 rfl) ?_
    refine lv_if_ne (tgt := 2237) hx hb dL_law_2222 (by decide) (fun c2222 => ?_) (fun c2222 => ?_)
    · skip
      refine lv_goto (tgt := 2402) hx hb dL_law_2237 (by decide) ?_
      refine W.widen (k := 1000) (n := 100000) (by decide) (by decide) ?_
      exact kk _ _ _ hS (lv_sub hl [2, 7] rfl)
    · skip
      refine lv_aload_n hx hb dL_law_2225 rfl (lv_at hl 4 rfl) ?_
      refine lv_iconst (v := nI 0) hx hb dL_law_2226 (by decide) ?_
      refine q_lald hx hb hK hg1 0 (rfl) (by omega) (by decide) dL_law_2227 ?_
      refine lv_iload hx hb dL_law_2228 (lv_at hl 0 rfl) ?_
      refine lv_i2l (v := r2.toInt64) hx hb dL_law_2230 rfl ?_
      refine W.lcmp hx hb dL_law_2231 ?_
      have hv9 : lg_cmp (g 0) r2.toInt64 = 0 := by rw [hg2 c2222, hr2 c2222]; exact lg_z _
      refine lv_if_eq (tgt := 2237) hx hb dL_law_2232 (by decide) (fun c2232 => ?_) (fun c2232 => ?_)
      · skip
        refine lv_goto (tgt := 2402) hx hb dL_law_2237 (by decide) ?_
        refine W.widen (k := 1000) (n := 100000) (by decide) (by decide) ?_
        exact kk _ _ _ hS (lv_sub hl [2, 7] rfl)
      · skip
        exact absurd hv9 c2232
  · skip
    exact absurd rfl c2215

set_option maxHeartbeats 4000000 in
set_option maxRecDepth 100000 in
theorem lc_best {p : Program} {e : Env} {s : State} {m : MethodId} {below : List Frame} {meth : Method} {c : Code} {l : Launch} {b : Nat} {xs : Nat → Int32} {D : va_G} {T : Nat → ClassId} {ad : Nat → Nat} {m0 o o2 : Nat} {H : Heap} {locs : List Loc} {ls : Array Slot} {Q : State → Prop} (hlt : l.stackTraces = false) (hx : p.tables.exec = Jvm.exec) (hb : c.code = cL_law) (hr : meth.sig.returnType = ret) (hml : c.maxLocals = 9) (hown : s.vm.findClass RL = some m.cls) (hts : ∀ w ∈ wsL_law, w.before #[Value.ref b] s = true) (hK : KB D T s) (hKX : KX s.heap.size s) (hNc : va_Nc IAE IOB s) (hX : va_X b 6 xs s s.heap) (hbl : b < s.heap.size) (hS : va_S (fun q : Nat => s.heap.size ≤ q) s.heap H locs) (hw : PLW D T ad zz2 zz2 sr0 zr0 H) (hm : MF D T m0 (nI 0) H) (ho : pAt D H o (eL (T 6) 1 (fun _ => 0))) (ho2 : pAt D H o2 (eD (T 7) 1 (fun _ => 0))) (had : ∀ i : Nat, i < 37 → s.heap.size ≤ ad i ∧ ad i < m0) (hmo : m0 + 16 ≤ o) (hoo : o < o2) (hl : lv_has ls 9 [(5, .int (nI 0)), (4, .ref o2), (3, .ref o), (2, .ref m0), (1, .ref (ad 0)), (0, .ref b)]) (kk : ∀ (H1 : Heap) (locs1 : List Loc) (ls1 : Array Slot), va_S (fun q : Nat => s.heap.size ≤ q) s.heap H1 locs1 → lv_has ls1 9 [(5, .int (nI 0)), (0, .ref b)] → W p l e room_1 s m #[Value.ref b] below meth c H1 locs1 1000 100000 Q (F0 m 2402 ls1 [])) : W p l e room_1 s m #[Value.ref b] below meth c H locs 100 10000 Q (F0 m 2240 ls []) := by
  refine lv_aload_n hx hb dL_law_2240 rfl (lv_at hl 4 rfl) ?_
  refine lv_aload_n hx hb dL_law_2241 rfl (lv_at hl 5 rfl) ?_
  refine lv_iload hx hb dL_law_2242 (lv_at hl 0 rfl) ?_
  refine lv_iconst (v := nI 1) hx hb dL_law_2244 (by decide) ?_
  refine lv_iadd hx hb dL_law_2245 ?_
  rw [nI_add]
  refine q_sld hx hb hX hbl (Nat.not_le.mpr hbl) hS 1 rfl (by omega) dL_law_2246 ?_
  refine lv_aload_n hx hb dL_law_2247 rfl (lv_at hl 5 rfl) ?_
  refine lv_iload hx hb dL_law_2248 (lv_at hl 0 rfl) ?_
  refine lv_iconst (v := nI 2) hx hb dL_law_2250 (by decide) ?_
  refine lv_iadd hx hb dL_law_2251 ?_
  rw [nI_add]
  refine q_sld hx hb hX hbl (Nat.not_le.mpr hbl) hS 2 rfl (by omega) dL_law_2252 ?_
  refine lv_aload_n hx hb dL_law_2253 rfl (lv_at hl 2 rfl) ?_
  obtain ⟨z1, hq1⟩ : ∃ z : Nat, z = H.size := ⟨_, rfl⟩
  have lm := hm.lt
  have lo := ho.lt
  refine va_calli (vx_runSW (As := [.ref (ad 0), .int (xs 1), .int (xs 2), .ref o]) (rest := []) ⟨hx, hb, hml, hown, hts⟩ (wr_best l hlt D T s.heap.size z1 o ad _ (xs 1) (xs 2) (fun i hi => (had i hi).1) (by have := hS.1; omega) (fun i hi => by have := had i hi; omega)) (vx_cwSW 4 hts gL_law_L_best rfl rfl rfl (by decide +kernel) ⟨Nat.le_of_ble_eq_true rfl, Nat.le_of_ble_eq_true rfl⟩) (preW hK hKX.1 (fun U hU hA => hKX.2.kept hA (fun a h1 h2 => by rw [hU]; exact hS.2.1 a h1 h2)) hNc ⟨hq1.symm, hw, ho⟩) rfl rfl hl.1 rfl (lv_room (Nat.le_of_ble_eq_true rfl)) dL_law_2254 ⟨Nat.le_of_ble_eq_true rfl, Nat.le_of_ble_eq_true rfl⟩) hS (fun q _ h9 => wa_N had (by have := had 0 (by omega); omega) (by have := hS.1; omega) h9) (fun q h9 => wa_N had (by have := had 0 (by omega); omega) (by have := hS.1; omega) h9) (fun r u t H1 locs1 ht hvm hr9 hB hz8 hk1 hS => ?_)
  try dsimp only at hB
  rw [ht] at hB
  replace hm := hm.kept hk1 (fun q h7 h8 => wa_m had (by omega) (by omega) h7 h8)
  obtain ⟨g, hg1, hg2⟩ := hB
  rw [hr9]
  refine lv_istore (lv' := [(6, .int (tw_best (xs 1) (xs 2))), (5, .int (nI 0)), (4, .ref o2), (3, .ref o), (2, .ref m0), (1, .ref (ad 0)), (0, .ref b)]) hx hb dL_law_2257 hl (by decide) rfl (fun ls hl => ?_)
  refine lv_aload_n hx hb dL_law_2259 rfl (lv_at hl 4 rfl) ?_
  refine lv_aload_n hx hb dL_law_2260 rfl (lv_at hl 6 rfl) ?_
  refine lv_iload hx hb dL_law_2261 (lv_at hl 1 rfl) ?_
  refine lv_iconst (v := nI 1) hx hb dL_law_2263 (by decide) ?_
  refine lv_iadd hx hb dL_law_2264 ?_
  rw [nI_add]
  refine q_sld hx hb hX hbl (Nat.not_le.mpr hbl) hS 1 rfl (by omega) dL_law_2265 ?_
  refine lv_aload_n hx hb dL_law_2266 rfl (lv_at hl 6 rfl) ?_
  refine lv_iload hx hb dL_law_2267 (lv_at hl 1 rfl) ?_
  refine lv_iconst (v := nI 2) hx hb dL_law_2269 (by decide) ?_
  refine lv_iadd hx hb dL_law_2270 ?_
  rw [nI_add]
  refine q_sld hx hb hX hbl (Nat.not_le.mpr hbl) hS 2 rfl (by omega) dL_law_2271 ?_
  obtain ⟨z2, hq2⟩ : ∃ z : Nat, z = H1.size := ⟨_, rfl⟩
  have lm2 := hm.lt
  have lg := hg1.lt
  refine va_calli (va_runV (As := [.int (xs 1), .int (xs 2)]) (rest := []) ⟨hx, hb, hml, hown, hts⟩ (conX4_best l D T z2 m0 (nI 0) (xs 1) (xs 2)) (cwV 2 hts gL_law_X4_best rfl rfl rfl (by decide +kernel) ⟨Nat.le_of_ble_eq_true rfl, Nat.le_of_ble_eq_true rfl⟩) (preV hK hm.o rfl ⟨hq2.symm, hm⟩) rfl rfl hl.1 rfl (lv_room (Nat.le_of_ble_eq_true rfl)) dL_law_2272 ⟨Nat.le_of_ble_eq_true rfl, Nat.le_of_ble_eq_true rfl⟩) hS (fun q _ h9 => ma_N (had 0 (by omega)) (by have := hS.1; omega) h9) (fun q h9 => ma_N (had 0 (by omega)) (by have := hS.1; omega) h9) (fun r2 u2 t2 H2 locs2 ht2 hvm2 hr2 hB2 hz9 hk2 hS => ?_)
  try dsimp only at hB2
  rw [ht2] at hB2
  replace hg1 := hg1.kept (hk2 _ hg1.lt (fun h9 => ma_o (by omega) (by omega) h9))
  obtain ⟨vs, vv, hmt⟩ := hB2
  refine lv_istore (lv' := [(7, .int r2), (6, .int (tw_best (xs 1) (xs 2))), (5, .int (nI 0)), (4, .ref o2), (3, .ref o), (2, .ref m0), (1, .ref (ad 0)), (0, .ref b)]) hx hb dL_law_2275 hl (by decide) rfl (fun ls hl => ?_)
  refine lv_aload_n hx hb dL_law_2277 rfl (lv_at hl 5 rfl) ?_
  refine vp_callSi (va_runV (As := []) (rest := []) ⟨hx, hb, hml, hown, hts⟩ (conX4_thrown l D T m0 (tw_best (xs 1) (xs 2)) vs vv) (cwV 0 hts gL_law_X4_thrown rfl rfl rfl (by decide +kernel) ⟨Nat.le_of_ble_eq_true rfl, Nat.le_of_ble_eq_true rfl⟩) (preV hK hmt rfl hmt) rfl rfl hl.1 rfl (lv_room (Nat.le_of_ble_eq_true rfl)) dL_law_2278 ⟨Nat.le_of_ble_eq_true rfl, Nat.le_of_ble_eq_true rfl⟩).run (fun r3 hr3 => ?_)
  rw [hr3]
  refine lv_iload hx hb dL_law_2281 (lv_at hl 1 rfl) ?_
  refine lv_icmp_eq (tgt := 2288) hx hb dL_law_2283 (by decide) (fun c2283 => ?_) (fun c2283 => ?_)
  · skip
    refine lv_iload hx hb dL_law_2288 (lv_at hl 1 rfl) ?_
    refine lv_if_ne (tgt := 2305) hx hb dL_law_2290 (by decide) (fun c2290 => ?_) (fun c2290 => ?_)
    · skip
      refine lv_goto (tgt := 2402) hx hb dL_law_2305 (by decide) ?_
      refine W.widen (k := 1000) (n := 100000) (by decide) (by decide) ?_
      exact kk _ _ _ hS (lv_sub hl [2, 7] rfl)
    · skip
      refine lv_aload_n hx hb dL_law_2293 rfl (lv_at hl 4 rfl) ?_
      refine lv_iconst (v := nI 0) hx hb dL_law_2294 (by decide) ?_
      refine q_lald hx hb hK hg1 0 (rfl) (by omega) (by decide) dL_law_2295 ?_
      refine lv_iload hx hb dL_law_2296 (lv_at hl 0 rfl) ?_
      refine lv_i2l (v := r2.toInt64) hx hb dL_law_2298 rfl ?_
      refine W.lcmp hx hb dL_law_2299 ?_
      have hv9 : lg_cmp (g 0) r2.toInt64 = 0 := by rw [hg2 c2290, hr2 c2290]; exact lg_z _
      refine lv_if_eq (tgt := 2305) hx hb dL_law_2300 (by decide) (fun c2300 => ?_) (fun c2300 => ?_)
      · skip
        refine lv_goto (tgt := 2402) hx hb dL_law_2305 (by decide) ?_
        refine W.widen (k := 1000) (n := 100000) (by decide) (by decide) ?_
        exact kk _ _ _ hS (lv_sub hl [2, 7] rfl)
      · skip
        exact absurd hv9 c2300
  · skip
    exact absurd rfl c2283

set_option maxHeartbeats 4000000 in
set_option maxRecDepth 100000 in
theorem lc_saves {p : Program} {e : Env} {s : State} {m : MethodId} {below : List Frame} {meth : Method} {c : Code} {l : Launch} {b : Nat} {xs : Nat → Int32} {D : va_G} {T : Nat → ClassId} {ad : Nat → Nat} {m0 o o2 : Nat} {H : Heap} {locs : List Loc} {ls : Array Slot} {Q : State → Prop} (hlt : l.stackTraces = false) (hx : p.tables.exec = Jvm.exec) (hb : c.code = cL_law) (hr : meth.sig.returnType = ret) (hml : c.maxLocals = 9) (hown : s.vm.findClass RL = some m.cls) (hts : ∀ w ∈ wsL_law, w.before #[Value.ref b] s = true) (hK : KB D T s) (hKX : KX s.heap.size s) (hNc : va_Nc IAE IOB s) (hX : va_X b 6 xs s s.heap) (hbl : b < s.heap.size) (hS : va_S (fun q : Nat => s.heap.size ≤ q) s.heap H locs) (hw : PLW D T ad zz2 zz2 sr0 zr0 H) (hm : MF D T m0 (nI 0) H) (ho : pAt D H o (eL (T 6) 1 (fun _ => 0))) (ho2 : pAt D H o2 (eD (T 7) 1 (fun _ => 0))) (had : ∀ i : Nat, i < 37 → s.heap.size ≤ ad i ∧ ad i < m0) (hmo : m0 + 16 ≤ o) (hoo : o < o2) (hl : lv_has ls 9 [(5, .int (nI 0)), (4, .ref o2), (3, .ref o), (2, .ref m0), (1, .ref (ad 0)), (0, .ref b)]) (kk : ∀ (H1 : Heap) (locs1 : List Loc) (ls1 : Array Slot), va_S (fun q : Nat => s.heap.size ≤ q) s.heap H1 locs1 → lv_has ls1 9 [(5, .int (nI 0)), (0, .ref b)] → W p l e room_1 s m #[Value.ref b] below meth c H1 locs1 1000 100000 Q (F0 m 2402 ls1 [])) : W p l e room_1 s m #[Value.ref b] below meth c H locs 100 10000 Q (F0 m 2308 ls []) := by
  refine lv_aload_n hx hb dL_law_2308 rfl (lv_at hl 4 rfl) ?_
  refine lv_aload_n hx hb dL_law_2309 rfl (lv_at hl 5 rfl) ?_
  refine lv_iload hx hb dL_law_2310 (lv_at hl 0 rfl) ?_
  refine lv_iconst (v := nI 1) hx hb dL_law_2312 (by decide) ?_
  refine lv_iadd hx hb dL_law_2313 ?_
  rw [nI_add]
  refine q_sld hx hb hX hbl (Nat.not_le.mpr hbl) hS 1 rfl (by omega) dL_law_2314 ?_
  refine lv_aload_n hx hb dL_law_2315 rfl (lv_at hl 5 rfl) ?_
  refine lv_iload hx hb dL_law_2316 (lv_at hl 0 rfl) ?_
  refine lv_iconst (v := nI 2) hx hb dL_law_2318 (by decide) ?_
  refine lv_iadd hx hb dL_law_2319 ?_
  rw [nI_add]
  refine q_sld hx hb hX hbl (Nat.not_le.mpr hbl) hS 2 rfl (by omega) dL_law_2320 ?_
  refine lv_aload_n hx hb dL_law_2321 rfl (lv_at hl 5 rfl) ?_
  refine lv_iload hx hb dL_law_2322 (lv_at hl 0 rfl) ?_
  refine lv_iconst (v := nI 3) hx hb dL_law_2324 (by decide) ?_
  refine lv_iadd hx hb dL_law_2325 ?_
  rw [nI_add]
  refine q_sld hx hb hX hbl (Nat.not_le.mpr hbl) hS 3 rfl (by omega) dL_law_2326 ?_
  refine lv_aload_n hx hb dL_law_2327 rfl (lv_at hl 2 rfl) ?_
  obtain ⟨z1, hq1⟩ : ∃ z : Nat, z = H.size := ⟨_, rfl⟩
  have lm := hm.lt
  have lo := ho.lt
  refine va_calli (vx_runSW (As := [.ref (ad 0), .int (xs 1), .int (xs 2), .int (xs 3), .ref o]) (rest := []) ⟨hx, hb, hml, hown, hts⟩ (wr_saves l hlt D T s.heap.size z1 o ad _ (xs 1) (xs 2) (xs 3) (fun i hi => (had i hi).1) (by have := hS.1; omega) (fun i hi => by have := had i hi; omega)) (vx_cwSW 5 hts gL_law_L_saves rfl rfl rfl (by decide +kernel) ⟨Nat.le_of_ble_eq_true rfl, Nat.le_of_ble_eq_true rfl⟩) (preW hK hKX.1 (fun U hU hA => hKX.2.kept hA (fun a h1 h2 => by rw [hU]; exact hS.2.1 a h1 h2)) hNc ⟨hq1.symm, hw, ho⟩) rfl rfl hl.1 rfl (lv_room (Nat.le_of_ble_eq_true rfl)) dL_law_2328 ⟨Nat.le_of_ble_eq_true rfl, Nat.le_of_ble_eq_true rfl⟩) hS (fun q _ h9 => wa_N had (by have := had 0 (by omega); omega) (by have := hS.1; omega) h9) (fun q h9 => wa_N had (by have := had 0 (by omega); omega) (by have := hS.1; omega) h9) (fun r u t H1 locs1 ht hvm hr9 hB hz8 hk1 hS => ?_)
  try dsimp only at hB
  rw [ht] at hB
  replace hm := hm.kept hk1 (fun q h7 h8 => wa_m had (by omega) (by omega) h7 h8)
  obtain ⟨g, hg1, hg2⟩ := hB
  rw [hr9]
  refine lv_istore (lv' := [(6, .int (tw_saves (xs 1) (xs 2) (xs 3))), (5, .int (nI 0)), (4, .ref o2), (3, .ref o), (2, .ref m0), (1, .ref (ad 0)), (0, .ref b)]) hx hb dL_law_2331 hl (by decide) rfl (fun ls hl => ?_)
  refine lv_aload_n hx hb dL_law_2333 rfl (lv_at hl 4 rfl) ?_
  refine lv_aload_n hx hb dL_law_2334 rfl (lv_at hl 6 rfl) ?_
  refine lv_iload hx hb dL_law_2335 (lv_at hl 1 rfl) ?_
  refine lv_iconst (v := nI 1) hx hb dL_law_2337 (by decide) ?_
  refine lv_iadd hx hb dL_law_2338 ?_
  rw [nI_add]
  refine q_sld hx hb hX hbl (Nat.not_le.mpr hbl) hS 1 rfl (by omega) dL_law_2339 ?_
  refine lv_aload_n hx hb dL_law_2340 rfl (lv_at hl 6 rfl) ?_
  refine lv_iload hx hb dL_law_2341 (lv_at hl 1 rfl) ?_
  refine lv_iconst (v := nI 2) hx hb dL_law_2343 (by decide) ?_
  refine lv_iadd hx hb dL_law_2344 ?_
  rw [nI_add]
  refine q_sld hx hb hX hbl (Nat.not_le.mpr hbl) hS 2 rfl (by omega) dL_law_2345 ?_
  refine lv_aload_n hx hb dL_law_2346 rfl (lv_at hl 6 rfl) ?_
  refine lv_iload hx hb dL_law_2347 (lv_at hl 1 rfl) ?_
  refine lv_iconst (v := nI 3) hx hb dL_law_2349 (by decide) ?_
  refine lv_iadd hx hb dL_law_2350 ?_
  rw [nI_add]
  refine q_sld hx hb hX hbl (Nat.not_le.mpr hbl) hS 3 rfl (by omega) dL_law_2351 ?_
  obtain ⟨z2, hq2⟩ : ∃ z : Nat, z = H1.size := ⟨_, rfl⟩
  have lm2 := hm.lt
  have lg := hg1.lt
  refine va_calli (va_runV (As := [.int (xs 1), .int (xs 2), .int (xs 3)]) (rest := []) ⟨hx, hb, hml, hown, hts⟩ (conX4_saves l D T z2 m0 (nI 0) (xs 1) (xs 2) (xs 3)) (cwV 3 hts gL_law_X4_saves rfl rfl rfl (by decide +kernel) ⟨Nat.le_of_ble_eq_true rfl, Nat.le_of_ble_eq_true rfl⟩) (preV hK hm.o rfl ⟨hq2.symm, hm⟩) rfl rfl hl.1 rfl (lv_room (Nat.le_of_ble_eq_true rfl)) dL_law_2352 ⟨Nat.le_of_ble_eq_true rfl, Nat.le_of_ble_eq_true rfl⟩) hS (fun q _ h9 => ma_N (had 0 (by omega)) (by have := hS.1; omega) h9) (fun q h9 => ma_N (had 0 (by omega)) (by have := hS.1; omega) h9) (fun r2 u2 t2 H2 locs2 ht2 hvm2 hr2 hB2 hz9 hk2 hS => ?_)
  try dsimp only at hB2
  rw [ht2] at hB2
  replace hg1 := hg1.kept (hk2 _ hg1.lt (fun h9 => ma_o (by omega) (by omega) h9))
  obtain ⟨vs, vv, hmt⟩ := hB2
  refine lv_istore (lv' := [(7, .int r2), (6, .int (tw_saves (xs 1) (xs 2) (xs 3))), (5, .int (nI 0)), (4, .ref o2), (3, .ref o), (2, .ref m0), (1, .ref (ad 0)), (0, .ref b)]) hx hb dL_law_2355 hl (by decide) rfl (fun ls hl => ?_)
  refine lv_aload_n hx hb dL_law_2357 rfl (lv_at hl 5 rfl) ?_
  refine vp_callSi (va_runV (As := []) (rest := []) ⟨hx, hb, hml, hown, hts⟩ (conX4_thrown l D T m0 (tw_saves (xs 1) (xs 2) (xs 3)) vs vv) (cwV 0 hts gL_law_X4_thrown rfl rfl rfl (by decide +kernel) ⟨Nat.le_of_ble_eq_true rfl, Nat.le_of_ble_eq_true rfl⟩) (preV hK hmt rfl hmt) rfl rfl hl.1 rfl (lv_room (Nat.le_of_ble_eq_true rfl)) dL_law_2358 ⟨Nat.le_of_ble_eq_true rfl, Nat.le_of_ble_eq_true rfl⟩).run (fun r3 hr3 => ?_)
  rw [hr3]
  refine lv_iload hx hb dL_law_2361 (lv_at hl 1 rfl) ?_
  refine lv_icmp_eq (tgt := 2368) hx hb dL_law_2363 (by decide) (fun c2363 => ?_) (fun c2363 => ?_)
  · skip
    refine lv_iload hx hb dL_law_2368 (lv_at hl 1 rfl) ?_
    refine lv_if_ne (tgt := 2385) hx hb dL_law_2370 (by decide) (fun c2370 => ?_) (fun c2370 => ?_)
    · skip
      refine lv_goto (tgt := 2402) hx hb dL_law_2385 (by decide) ?_
      refine W.widen (k := 1000) (n := 100000) (by decide) (by decide) ?_
      exact kk _ _ _ hS (lv_sub hl [2, 7] rfl)
    · skip
      refine lv_aload_n hx hb dL_law_2373 rfl (lv_at hl 4 rfl) ?_
      refine lv_iconst (v := nI 0) hx hb dL_law_2374 (by decide) ?_
      refine q_lald hx hb hK hg1 0 (rfl) (by omega) (by decide) dL_law_2375 ?_
      refine lv_iload hx hb dL_law_2376 (lv_at hl 0 rfl) ?_
      refine lv_i2l (v := r2.toInt64) hx hb dL_law_2378 rfl ?_
      refine W.lcmp hx hb dL_law_2379 ?_
      have hv9 : lg_cmp (g 0) r2.toInt64 = 0 := by rw [hg2 c2370, hr2 c2370]; exact lg_z _
      refine lv_if_eq (tgt := 2385) hx hb dL_law_2380 (by decide) (fun c2380 => ?_) (fun c2380 => ?_)
      · skip
        refine lv_goto (tgt := 2402) hx hb dL_law_2385 (by decide) ?_
        refine W.widen (k := 1000) (n := 100000) (by decide) (by decide) ?_
        exact kk _ _ _ hS (lv_sub hl [2, 7] rfl)
      · skip
        exact absurd hv9 c2380
  · skip
    exact absurd rfl c2363

set_option maxHeartbeats 4000000 in
set_option maxRecDepth 100000 in
theorem lc_digest {p : Program} {e : Env} {s : State} {m : MethodId} {below : List Frame} {meth : Method} {c : Code} {l : Launch} {b : Nat} {xs : Nat → Int32} {D : va_G} {T : Nat → ClassId} {ad : Nat → Nat} {m0 o o2 : Nat} {H : Heap} {locs : List Loc} {ls : Array Slot} {Q : State → Prop} (hlt : l.stackTraces = false) (hx : p.tables.exec = Jvm.exec) (hb : c.code = cL_law) (hr : meth.sig.returnType = ret) (hml : c.maxLocals = 9) (hown : s.vm.findClass RL = some m.cls) (hts : ∀ w ∈ wsL_law, w.before #[Value.ref b] s = true) (hK : KB D T s) (hKX : KX s.heap.size s) (hNc : va_Nc IAE IOB s) (hX : va_X b 6 xs s s.heap) (hbl : b < s.heap.size) (hS : va_S (fun q : Nat => s.heap.size ≤ q) s.heap H locs) (hw : PLW D T ad zz2 zz2 sr0 zr0 H) (hm : MF D T m0 (nI 0) H) (ho : pAt D H o (eL (T 6) 1 (fun _ => 0))) (ho2 : pAt D H o2 (eD (T 7) 1 (fun _ => 0))) (had : ∀ i : Nat, i < 37 → s.heap.size ≤ ad i ∧ ad i < m0) (hmo : m0 + 16 ≤ o) (hoo : o < o2) (hl : lv_has ls 9 [(5, .int (nI 0)), (4, .ref o2), (3, .ref o), (2, .ref m0), (1, .ref (ad 0)), (0, .ref b)]) (kk : ∀ (H1 : Heap) (locs1 : List Loc) (ls1 : Array Slot), va_S (fun q : Nat => s.heap.size ≤ q) s.heap H1 locs1 → lv_has ls1 9 [(5, .int (nI 0)), (0, .ref b)] → W p l e room_1 s m #[Value.ref b] below meth c H1 locs1 1000 100000 Q (F0 m 2402 ls1 [])) : W p l e room_1 s m #[Value.ref b] below meth c H locs 100 10000 Q (F0 m 2388 ls []) := by
  refine lv_aload_n hx hb dL_law_2388 rfl (lv_at hl 4 rfl) ?_
  have lm := hm.lt
  refine va_calll (va_runV (As := []) (rest := []) ⟨hx, hb, hml, hown, hts⟩ (conX3_digest l D T ad zz2 zz2 sr0 zr0 emp0 (Nat.zero_le _)) (cwV 0 hts gL_law_X3_digest rfl rfl rfl (by decide +kernel) ⟨Nat.le_of_ble_eq_true rfl, Nat.le_of_ble_eq_true rfl⟩) (preV hK hw.o rfl hw) rfl rfl hl.1 rfl (lv_room (Nat.le_of_ble_eq_true rfl)) dL_law_2389 ⟨Nat.le_of_ble_eq_true rfl, Nat.le_of_ble_eq_true rfl⟩) hS (fun q _ h9 => pa_N had h9) (fun q h9 => pa_N had h9) (fun r u t H1 locs1 ht hvm hr9 hB hz8 hk1 hS => ?_)
  replace hm := hm.kept hk1 (fun q h7 h8 => pa_m had h7)
  rw [hr9, v_digest]
  refine lv_aload_n hx hb dL_law_2392 rfl (lv_at hl 3 rfl) ?_
  obtain ⟨z2, hq2⟩ : ∃ z : Nat, z = H1.size := ⟨_, rfl⟩
  have lm2 := hm.lt
  refine va_calll (va_runV (As := []) (rest := [.long dMv]) ⟨hx, hb, hml, hown, hts⟩ (conX4_digest l D T z2 m0 (nI 0) ) (cwV 0 hts gL_law_X4_digest rfl rfl rfl (by decide +kernel) ⟨Nat.le_of_ble_eq_true rfl, Nat.le_of_ble_eq_true rfl⟩) (preV hK hm.o rfl ⟨hq2.symm, hm⟩) rfl rfl hl.1 rfl (lv_room (Nat.le_of_ble_eq_true rfl)) dL_law_2393 ⟨Nat.le_of_ble_eq_true rfl, Nat.le_of_ble_eq_true rfl⟩) hS (fun q _ h9 => ma_N (had 0 (by omega)) (by have := hS.1; omega) h9) (fun q h9 => ma_N (had 0 (by omega)) (by have := hS.1; omega) h9) (fun r2 u2 t2 H2 locs2 ht2 hvm2 hr2 hB2 hz9 hk2 hS => ?_)
  try dsimp only at hB2
  rw [ht2] at hB2
  refine W.lcmp hx hb dL_law_2396 ?_
  have hv9 : lg_cmp dMv r2 = 0 := by rw [hr2 rfl]; exact lg_z _
  refine lv_if_eq (tgt := 2402) hx hb dL_law_2397 (by decide) (fun c2397 => ?_) (fun c2397 => ?_)
  · skip
    refine W.widen (k := 1000) (n := 100000) (by decide) (by decide) ?_
    exact kk _ _ _ hS (lv_sub hl [0, 5] rfl)
  · skip
    exact absurd hv9 c2397
