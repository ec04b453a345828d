set_option maxHeartbeats 4000000 in
set_option maxRecDepth 100000 in
theorem lc_ofFunction {p : Program} {e : Env} {s : State} {m : MethodId} {below : List Frame} {meth : Method} {c : Code} {l : Launch} {b : Nat} {xs : Nat → Int32} {D : va_G} {T : Nat → ClassId} {ad : Nat → Nat} {m0 o o2 : Nat} {H : Heap} {locs : List Loc} {ls : Array Slot} {Q : State → Prop} (hlt : l.stackTraces = false) (hx : p.tables.exec = Jvm.exec) (hb : c.code = cL_law) (hr : meth.sig.returnType = ret) (hml : c.maxLocals = 9) (hown : s.vm.findClass RL = some m.cls) (hts : ∀ w ∈ wsL_law, w.before #[Value.ref b] s = true) (hK : KB D T s) (hKX : KX s.heap.size s) (hNc : va_Nc IAE IOB s) (hX : va_X b 6 xs s s.heap) (hbl : b < s.heap.size) (hS : va_S (fun q : Nat => s.heap.size ≤ q) s.heap H locs) (hw : PLW D T ad zz2 zz2 sr0 zr0 H) (hm : MF D T m0 (nI 0) H) (ho : pAt D H o (eL (T 6) 1 (fun _ => 0))) (ho2 : pAt D H o2 (eD (T 7) 1 (fun _ => 0))) (had : ∀ i : Nat, i < 37 → s.heap.size ≤ ad i ∧ ad i < m0) (hmo : m0 + 16 ≤ o) (hoo : o < o2) (hl : lv_has ls 9 [(5, .int (nI 0)), (4, .ref o2), (3, .ref o), (2, .ref m0), (1, .ref (ad 0)), (0, .ref b)]) (kk : ∀ (H1 : Heap) (locs1 : List Loc) (ls1 : Array Slot), va_S (fun q : Nat => s.heap.size ≤ q) s.heap H1 locs1 → lv_has ls1 9 [(5, .int (nI 0)), (0, .ref b)] → W p l e room_1 s m #[Value.ref b] below meth c H1 locs1 1000 100000 Q (F0 m 2402 ls1 [])) : W p l e room_1 s m #[Value.ref b] below meth c H locs 100 10000 Q (F0 m 1471 ls []) := by
  refine lv_aload_n hx hb dL_law_1471 rfl (lv_at hl 4 rfl) ?_
  refine lv_aload_n hx hb dL_law_1472 rfl (lv_at hl 5 rfl) ?_
  refine lv_iload hx hb dL_law_1473 (lv_at hl 0 rfl) ?_
  refine lv_iconst (v := nI 1) hx hb dL_law_1475 (by decide) ?_
  refine lv_iadd hx hb dL_law_1476 ?_
  rw [nI_add]
  refine q_sld hx hb hX hbl (Nat.not_le.mpr hbl) hS 1 rfl (by omega) dL_law_1477 ?_
  refine lv_aload_n hx hb dL_law_1478 rfl (lv_at hl 5 rfl) ?_
  refine lv_iload hx hb dL_law_1479 (lv_at hl 0 rfl) ?_
  refine lv_iconst (v := nI 2) hx hb dL_law_1481 (by decide) ?_
  refine lv_iadd hx hb dL_law_1482 ?_
  rw [nI_add]
  refine q_sld hx hb hX hbl (Nat.not_le.mpr hbl) hS 2 rfl (by omega) dL_law_1483 ?_
  refine lv_aload_n hx hb dL_law_1484 rfl (lv_at hl 2 rfl) ?_
  obtain ⟨z1, hq1⟩ : ∃ z : Nat, z = H.size := ⟨_, rfl⟩
  have lm := hm.lt
  have lo := ho.lt
  refine va_calli (vx_runSW (As := [.ref (ad 0), .int (xs 1), .int (xs 2), .ref o]) (rest := []) ⟨hx, hb, hml, hown, hts⟩ (wr_ofFunction l hlt D T s.heap.size z1 o ad _ (xs 1) (xs 2) (fun i hi => (had i hi).1) (by have := hS.1; omega) (fun i hi => by have := had i hi; omega)) (vx_cwSW 4 hts gL_law_L_ofFunction rfl rfl rfl (by decide +kernel) ⟨Nat.le_of_ble_eq_true rfl, Nat.le_of_ble_eq_true rfl⟩) (preW hK hKX.1 (fun U hU hA => hKX.2.kept hA (fun a h1 h2 => by rw [hU]; exact hS.2.1 a h1 h2)) hNc ⟨hq1.symm, hw, ho⟩) rfl rfl hl.1 rfl (lv_room (Nat.le_of_ble_eq_true rfl)) dL_law_1485 ⟨Nat.le_of_ble_eq_true rfl, Nat.le_of_ble_eq_true rfl⟩) hS (fun q _ h9 => wa_N had (by have := had 0 (by omega); omega) (by have := hS.1; omega) h9) (fun q h9 => wa_N had (by have := had 0 (by omega); omega) (by have := hS.1; omega) h9) (fun r u t H1 locs1 ht hvm hr9 hB hz8 hk1 hS => ?_)
  try dsimp only at hB
  rw [ht] at hB
  replace hm := hm.kept hk1 (fun q h7 h8 => wa_m had (by omega) (by omega) h7 h8)
  obtain ⟨g, hg1, hg2⟩ := hB
  rw [hr9]
  refine lv_istore (lv' := [(6, .int (tw_ofFunction (xs 1) (xs 2))), (5, .int (nI 0)), (4, .ref o2), (3, .ref o), (2, .ref m0), (1, .ref (ad 0)), (0, .ref b)]) hx hb dL_law_1488 hl (by decide) rfl (fun ls hl => ?_)
  refine lv_aload_n hx hb dL_law_1490 rfl (lv_at hl 4 rfl) ?_
  refine lv_aload_n hx hb dL_law_1491 rfl (lv_at hl 6 rfl) ?_
  refine lv_iload hx hb dL_law_1492 (lv_at hl 1 rfl) ?_
  refine lv_iconst (v := nI 1) hx hb dL_law_1494 (by decide) ?_
  refine lv_iadd hx hb dL_law_1495 ?_
  rw [nI_add]
  refine q_sld hx hb hX hbl (Nat.not_le.mpr hbl) hS 1 rfl (by omega) dL_law_1496 ?_
  refine lv_aload_n hx hb dL_law_1497 rfl (lv_at hl 6 rfl) ?_
  refine lv_iload hx hb dL_law_1498 (lv_at hl 1 rfl) ?_
  refine lv_iconst (v := nI 2) hx hb dL_law_1500 (by decide) ?_
  refine lv_iadd hx hb dL_law_1501 ?_
  rw [nI_add]
  refine q_sld hx hb hX hbl (Nat.not_le.mpr hbl) hS 2 rfl (by omega) dL_law_1502 ?_
  obtain ⟨z2, hq2⟩ : ∃ z : Nat, z = H1.size := ⟨_, rfl⟩
  have lm2 := hm.lt
  have lg := hg1.lt
  refine va_calli (va_runV (As := [.int (xs 1), .int (xs 2)]) (rest := []) ⟨hx, hb, hml, hown, hts⟩ (conX4_ofFunction l D T z2 m0 (nI 0) (xs 1) (xs 2)) (cwV 2 hts gL_law_X4_ofFunction rfl rfl rfl (by decide +kernel) ⟨Nat.le_of_ble_eq_true rfl, Nat.le_of_ble_eq_true rfl⟩) (preV hK hm.o rfl ⟨hq2.symm, hm⟩) rfl rfl hl.1 rfl (lv_room (Nat.le_of_ble_eq_true rfl)) dL_law_1503 ⟨Nat.le_of_ble_eq_true rfl, Nat.le_of_ble_eq_true rfl⟩) hS (fun q _ h9 => ma_N (had 0 (by omega)) (by have := hS.1; omega) h9) (fun q h9 => ma_N (had 0 (by omega)) (by have := hS.1; omega) h9) (fun r2 u2 t2 H2 locs2 ht2 hvm2 hr2 hB2 hz9 hk2 hS => ?_)
  try dsimp only at hB2
  rw [ht2] at hB2
  replace hg1 := hg1.kept (hk2 _ hg1.lt (fun h9 => ma_o (by omega) (by omega) h9))
  obtain ⟨vs, vv, hmt⟩ := hB2
  refine lv_istore (lv' := [(7, .int r2), (6, .int (tw_ofFunction (xs 1) (xs 2))), (5, .int (nI 0)), (4, .ref o2), (3, .ref o), (2, .ref m0), (1, .ref (ad 0)), (0, .ref b)]) hx hb dL_law_1506 hl (by decide) rfl (fun ls hl => ?_)
  refine lv_aload_n hx hb dL_law_1508 rfl (lv_at hl 5 rfl) ?_
  refine vp_callSi (va_runV (As := []) (rest := []) ⟨hx, hb, hml, hown, hts⟩ (conX4_thrown l D T m0 (tw_ofFunction (xs 1) (xs 2)) vs vv) (cwV 0 hts gL_law_X4_thrown rfl rfl rfl (by decide +kernel) ⟨Nat.le_of_ble_eq_true rfl, Nat.le_of_ble_eq_true rfl⟩) (preV hK hmt rfl hmt) rfl rfl hl.1 rfl (lv_room (Nat.le_of_ble_eq_true rfl)) dL_law_1509 ⟨Nat.le_of_ble_eq_true rfl, Nat.le_of_ble_eq_true rfl⟩).run (fun r3 hr3 => ?_)
  rw [hr3]
  refine lv_iload hx hb dL_law_1512 (lv_at hl 1 rfl) ?_
  refine lv_icmp_eq (tgt := 1519) hx hb dL_law_1514 (by decide) (fun c1514 => ?_) (fun c1514 => ?_)
  · skip
    refine lv_iload hx hb dL_law_1519 (lv_at hl 1 rfl) ?_
    refine lv_if_ne (tgt := 1536) hx hb dL_law_1521 (by decide) (fun c1521 => ?_) (fun c1521 => ?_)
    · skip
      refine lv_goto (tgt := 2402) hx hb dL_law_1536 (by decide) ?_
      refine W.widen (k := 1000) (n := 100000) (by decide) (by decide) ?_
      exact kk _ _ _ hS (lv_sub hl [2, 7] rfl)
    · skip
      refine lv_aload_n hx hb dL_law_1524 rfl (lv_at hl 4 rfl) ?_
      refine lv_iconst (v := nI 0) hx hb dL_law_1525 (by decide) ?_
      refine q_lald hx hb hK hg1 0 (rfl) (by omega) (by decide) dL_law_1526 ?_
      refine lv_iload hx hb dL_law_1527 (lv_at hl 0 rfl) ?_
      refine lv_i2l (v := r2.toInt64) hx hb dL_law_1529 rfl ?_
      refine W.lcmp hx hb dL_law_1530 ?_
      have hv9 : lg_cmp (g 0) r2.toInt64 = 0 := by rw [hg2 c1521, hr2 c1521]; exact lg_z _
      refine lv_if_eq (tgt := 1536) hx hb dL_law_1531 (by decide) (fun c1531 => ?_) (fun c1531 => ?_)
      · skip
        refine lv_goto (tgt := 2402) hx hb dL_law_1536 (by decide) ?_
        refine W.widen (k := 1000) (n := 100000) (by decide) (by decide) ?_
        exact kk _ _ _ hS (lv_sub hl [2, 7] rfl)
      · skip
        exact absurd hv9 c1531
  · skip
    exact absurd rfl c1514

set_option maxHeartbeats 4000000 in
set_option maxRecDepth 100000 in
theorem lc_value {p : Program} {e : Env} {s : State} {m : MethodId} {below : List Frame} {meth : Method} {c : Code} {l : Launch} {b : Nat} {xs : Nat → Int32} {D : va_G} {T : Nat → ClassId} {ad : Nat → Nat} {m0 o o2 : Nat} {H : Heap} {locs : List Loc} {ls : Array Slot} {Q : State → Prop} (hlt : l.stackTraces = false) (hx : p.tables.exec = Jvm.exec) (hb : c.code = cL_law) (hr : meth.sig.returnType = ret) (hml : c.maxLocals = 9) (hown : s.vm.findClass RL = some m.cls) (hts : ∀ w ∈ wsL_law, w.before #[Value.ref b] s = true) (hK : KB D T s) (hKX : KX s.heap.size s) (hNc : va_Nc IAE IOB s) (hX : va_X b 6 xs s s.heap) (hbl : b < s.heap.size) (hS : va_S (fun q : Nat => s.heap.size ≤ q) s.heap H locs) (hw : PLW D T ad zz2 zz2 sr0 zr0 H) (hm : MF D T m0 (nI 0) H) (ho : pAt D H o (eL (T 6) 1 (fun _ => 0))) (ho2 : pAt D H o2 (eD (T 7) 1 (fun _ => 0))) (had : ∀ i : Nat, i < 37 → s.heap.size ≤ ad i ∧ ad i < m0) (hmo : m0 + 16 ≤ o) (hoo : o < o2) (hl : lv_has ls 9 [(5, .int (nI 0)), (4, .ref o2), (3, .ref o), (2, .ref m0), (1, .ref (ad 0)), (0, .ref b)]) (kk : ∀ (H1 : Heap) (locs1 : List Loc) (ls1 : Array Slot), va_S (fun q : Nat => s.heap.size ≤ q) s.heap H1 locs1 → lv_has ls1 9 [(5, .int (nI 0)), (0, .ref b)] → W p l e room_1 s m #[Value.ref b] below meth c H1 locs1 1000 100000 Q (F0 m 2402 ls1 [])) : W p l e room_1 s m #[Value.ref b] below meth c H locs 100 10000 Q (F0 m 1539 ls []) := by
  refine lv_aload_n hx hb dL_law_1539 rfl (lv_at hl 4 rfl) ?_
  refine lv_aload_n hx hb dL_law_1540 rfl (lv_at hl 5 rfl) ?_
  refine lv_iload hx hb dL_law_1541 (lv_at hl 0 rfl) ?_
  refine lv_iconst (v := nI 1) hx hb dL_law_1543 (by decide) ?_
  refine lv_iadd hx hb dL_law_1544 ?_
  rw [nI_add]
  refine q_sld hx hb hX hbl (Nat.not_le.mpr hbl) hS 1 rfl (by omega) dL_law_1545 ?_
  refine lv_aload_n hx hb dL_law_1546 rfl (lv_at hl 5 rfl) ?_
  refine lv_iload hx hb dL_law_1547 (lv_at hl 0 rfl) ?_
  refine lv_iconst (v := nI 2) hx hb dL_law_1549 (by decide) ?_
  refine lv_iadd hx hb dL_law_1550 ?_
  rw [nI_add]
  refine q_sld hx hb hX hbl (Nat.not_le.mpr hbl) hS 2 rfl (by omega) dL_law_1551 ?_
  refine lv_aload_n hx hb dL_law_1552 rfl (lv_at hl 2 rfl) ?_
  obtain ⟨z1, hq1⟩ : ∃ z : Nat, z = H.size := ⟨_, rfl⟩
  have lm := hm.lt
  have lo := ho.lt
  refine va_calli (vx_runSW (As := [.ref (ad 0), .int (xs 1), .int (xs 2), .ref o]) (rest := []) ⟨hx, hb, hml, hown, hts⟩ (wr_value l hlt D T s.heap.size z1 o ad _ (xs 1) (xs 2) (fun i hi => (had i hi).1) (by have := hS.1; omega) (fun i hi => by have := had i hi; omega)) (vx_cwSW 4 hts gL_law_L_value rfl rfl rfl (by decide +kernel) ⟨Nat.le_of_ble_eq_true rfl, Nat.le_of_ble_eq_true rfl⟩) (preW hK hKX.1 (fun U hU hA => hKX.2.kept hA (fun a h1 h2 => by rw [hU]; exact hS.2.1 a h1 h2)) hNc ⟨hq1.symm, hw, ho⟩) rfl rfl hl.1 rfl (lv_room (Nat.le_of_ble_eq_true rfl)) dL_law_1553 ⟨Nat.le_of_ble_eq_true rfl, Nat.le_of_ble_eq_true rfl⟩) hS (fun q _ h9 => wa_N had (by have := had 0 (by omega); omega) (by have := hS.1; omega) h9) (fun q h9 => wa_N had (by have := had 0 (by omega); omega) (by have := hS.1; omega) h9) (fun r u t H1 locs1 ht hvm hr9 hB hz8 hk1 hS => ?_)
  try dsimp only at hB
  rw [ht] at hB
  replace hm := hm.kept hk1 (fun q h7 h8 => wa_m had (by omega) (by omega) h7 h8)
  obtain ⟨g, hg1, hg2⟩ := hB
  rw [hr9]
  refine lv_istore (lv' := [(6, .int (tw_value (xs 1) (xs 2))), (5, .int (nI 0)), (4, .ref o2), (3, .ref o), (2, .ref m0), (1, .ref (ad 0)), (0, .ref b)]) hx hb dL_law_1556 hl (by decide) rfl (fun ls hl => ?_)
  refine lv_aload_n hx hb dL_law_1558 rfl (lv_at hl 4 rfl) ?_
  refine lv_aload_n hx hb dL_law_1559 rfl (lv_at hl 6 rfl) ?_
  refine lv_iload hx hb dL_law_1560 (lv_at hl 1 rfl) ?_
  refine lv_iconst (v := nI 1) hx hb dL_law_1562 (by decide) ?_
  refine lv_iadd hx hb dL_law_1563 ?_
  rw [nI_add]
  refine q_sld hx hb hX hbl (Nat.not_le.mpr hbl) hS 1 rfl (by omega) dL_law_1564 ?_
  refine lv_aload_n hx hb dL_law_1565 rfl (lv_at hl 6 rfl) ?_
  refine lv_iload hx hb dL_law_1566 (lv_at hl 1 rfl) ?_
  refine lv_iconst (v := nI 2) hx hb dL_law_1568 (by decide) ?_
  refine lv_iadd hx hb dL_law_1569 ?_
  rw [nI_add]
  refine q_sld hx hb hX hbl (Nat.not_le.mpr hbl) hS 2 rfl (by omega) dL_law_1570 ?_
  obtain ⟨z2, hq2⟩ : ∃ z : Nat, z = H1.size := ⟨_, rfl⟩
  have lm2 := hm.lt
  have lg := hg1.lt
  refine va_calli (va_runV (As := [.int (xs 1), .int (xs 2)]) (rest := []) ⟨hx, hb, hml, hown, hts⟩ (conX4_value l D T z2 m0 (nI 0) (xs 1) (xs 2)) (cwV 2 hts gL_law_X4_value rfl rfl rfl (by decide +kernel) ⟨Nat.le_of_ble_eq_true rfl, Nat.le_of_ble_eq_true rfl⟩) (preV hK hm.o rfl ⟨hq2.symm, hm⟩) rfl rfl hl.1 rfl (lv_room (Nat.le_of_ble_eq_true rfl)) dL_law_1571 ⟨Nat.le_of_ble_eq_true rfl, Nat.le_of_ble_eq_true rfl⟩) hS (fun q _ h9 => ma_N (had 0 (by omega)) (by have := hS.1; omega) h9) (fun q h9 => ma_N (had 0 (by omega)) (by have := hS.1; omega) h9) (fun r2 u2 t2 H2 locs2 ht2 hvm2 hr2 hB2 hz9 hk2 hS => ?_)
  try dsimp only at hB2
  rw [ht2] at hB2
  replace hg1 := hg1.kept (hk2 _ hg1.lt (fun h9 => ma_o (by omega) (by omega) h9))
  obtain ⟨vs, vv, hmt⟩ := hB2
  refine lv_istore (lv' := [(7, .int r2), (6, .int (tw_value (xs 1) (xs 2))), (5, .int (nI 0)), (4, .ref o2), (3, .ref o), (2, .ref m0), (1, .ref (ad 0)), (0, .ref b)]) hx hb dL_law_1574 hl (by decide) rfl (fun ls hl => ?_)
  refine lv_aload_n hx hb dL_law_1576 rfl (lv_at hl 5 rfl) ?_
  refine vp_callSi (va_runV (As := []) (rest := []) ⟨hx, hb, hml, hown, hts⟩ (conX4_thrown l D T m0 (tw_value (xs 1) (xs 2)) vs vv) (cwV 0 hts gL_law_X4_thrown rfl rfl rfl (by decide +kernel) ⟨Nat.le_of_ble_eq_true rfl, Nat.le_of_ble_eq_true rfl⟩) (preV hK hmt rfl hmt) rfl rfl hl.1 rfl (lv_room (Nat.le_of_ble_eq_true rfl)) dL_law_1577 ⟨Nat.le_of_ble_eq_true rfl, Nat.le_of_ble_eq_true rfl⟩).run (fun r3 hr3 => ?_)
  rw [hr3]
  refine lv_iload hx hb dL_law_1580 (lv_at hl 1 rfl) ?_
  refine lv_icmp_eq (tgt := 1587) hx hb dL_law_1582 (by decide) (fun c1582 => ?_) (fun c1582 => ?_)
  · skip
    refine lv_iload hx hb dL_law_1587 (lv_at hl 1 rfl) ?_
    refine lv_if_ne (tgt := 1604) hx hb dL_law_1589 (by decide) (fun c1589 => ?_) (fun c1589 => ?_)
    · skip
      refine lv_goto (tgt := 2402) hx hb dL_law_1604 (by decide) ?_
      refine W.widen (k := 1000) (n := 100000) (by decide) (by decide) ?_
      exact kk _ _ _ hS (lv_sub hl [2, 7] rfl)
    · skip
      refine lv_aload_n hx hb dL_law_1592 rfl (lv_at hl 4 rfl) ?_
      refine lv_iconst (v := nI 0) hx hb dL_law_1593 (by decide) ?_
      refine q_lald hx hb hK hg1 0 (rfl) (by omega) (by decide) dL_law_1594 ?_
      refine lv_iload hx hb dL_law_1595 (lv_at hl 0 rfl) ?_
      refine lv_i2l (v := r2.toInt64) hx hb dL_law_1597 rfl ?_
      refine W.lcmp hx hb dL_law_1598 ?_
      have hv9 : lg_cmp (g 0) r2.toInt64 = 0 := by rw [hg2 c1589, hr2 c1589]; exact lg_z _
      refine lv_if_eq (tgt := 1604) hx hb dL_law_1599 (by decide) (fun c1599 => ?_) (fun c1599 => ?_)
      · skip
        refine lv_goto (tgt := 2402) hx hb dL_law_1604 (by decide) ?_
        refine W.widen (k := 1000) (n := 100000) (by decide) (by decide) ?_
        exact kk _ _ _ hS (lv_sub hl [2, 7] rfl)
      · skip
        exact absurd hv9 c1599
  · skip
    exact absurd rfl c1582

set_option maxHeartbeats 4000000 in
set_option maxRecDepth 100000 in
theorem lc_area {p : Program} {e : Env} {s : State} {m : MethodId} {below : List Frame} {meth : Method} {c : Code} {l : Launch} {b : Nat} {xs : Nat → Int32} {D : va_G} {T : Nat → ClassId} {ad : Nat → Nat} {m0 o o2 : Nat} {H : Heap} {locs : List Loc} {ls : Array Slot} {Q : State → Prop} (hlt : l.stackTraces = false) (hx : p.tables.exec = Jvm.exec) (hb : c.code = cL_law) (hr : meth.sig.returnType = ret) (hml : c.maxLocals = 9) (hown : s.vm.findClass RL = some m.cls) (hts : ∀ w ∈ wsL_law, w.before #[Value.ref b] s = true) (hK : KB D T s) (hKX : KX s.heap.size s) (hNc : va_Nc IAE IOB s) (hX : va_X b 6 xs s s.heap) (hbl : b < s.heap.size) (hS : va_S (fun q : Nat => s.heap.size ≤ q) s.heap H locs) (hw : PLW D T ad zz2 zz2 sr0 zr0 H) (hm : MF D T m0 (nI 0) H) (ho : pAt D H o (eL (T 6) 1 (fun _ => 0))) (ho2 : pAt D H o2 (eD (T 7) 1 (fun _ => 0))) (had : ∀ i : Nat, i < 37 → s.heap.size ≤ ad i ∧ ad i < m0) (hmo : m0 + 16 ≤ o) (hoo : o < o2) (hl : lv_has ls 9 [(5, .int (nI 0)), (4, .ref o2), (3, .ref o), (2, .ref m0), (1, .ref (ad 0)), (0, .ref b)]) (kk : ∀ (H1 : Heap) (locs1 : List Loc) (ls1 : Array Slot), va_S (fun q : Nat => s.heap.size ≤ q) s.heap H1 locs1 → lv_has ls1 9 [(5, .int (nI 0)), (0, .ref b)] → W p l e room_1 s m #[Value.ref b] below meth c H1 locs1 1000 100000 Q (F0 m 2402 ls1 [])) : W p l e room_1 s m #[Value.ref b] below meth c H locs 100 10000 Q (F0 m 1607 ls []) := by
  refine lv_aload_n hx hb dL_law_1607 rfl (lv_at hl 4 rfl) ?_
  refine lv_aload_n hx hb dL_law_1608 rfl (lv_at hl 5 rfl) ?_
  refine lv_iload hx hb dL_law_1609 (lv_at hl 0 rfl) ?_
  refine lv_iconst (v := nI 1) hx hb dL_law_1611 (by decide) ?_
  refine lv_iadd hx hb dL_law_1612 ?_
  rw [nI_add]
  refine q_sld hx hb hX hbl (Nat.not_le.mpr hbl) hS 1 rfl (by omega) dL_law_1613 ?_
  refine lv_aload_n hx hb dL_law_1614 rfl (lv_at hl 5 rfl) ?_
  refine lv_iload hx hb dL_law_1615 (lv_at hl 0 rfl) ?_
  refine lv_iconst (v := nI 2) hx hb dL_law_1617 (by decide) ?_
  refine lv_iadd hx hb dL_law_1618 ?_
  rw [nI_add]
  refine q_sld hx hb hX hbl (Nat.not_le.mpr hbl) hS 2 rfl (by omega) dL_law_1619 ?_
  refine lv_aload_n hx hb dL_law_1620 rfl (lv_at hl 2 rfl) ?_
  obtain ⟨z1, hq1⟩ : ∃ z : Nat, z = H.size := ⟨_, rfl⟩
  have lm := hm.lt
  have lo := ho.lt
  refine va_calli (vx_runSW (As := [.ref (ad 0), .int (xs 1), .int (xs 2), .ref o]) (rest := []) ⟨hx, hb, hml, hown, hts⟩ (wr_area l hlt D T s.heap.size z1 o ad _ (xs 1) (xs 2) (fun i hi => (had i hi).1) (by have := hS.1; omega) (fun i hi => by have := had i hi; omega)) (vx_cwSW 4 hts gL_law_L_area rfl rfl rfl (by decide +kernel) ⟨Nat.le_of_ble_eq_true rfl, Nat.le_of_ble_eq_true rfl⟩) (preW hK hKX.1 (fun U hU hA => hKX.2.kept hA (fun a h1 h2 => by rw [hU]; exact hS.2.1 a h1 h2)) hNc ⟨hq1.symm, hw, ho⟩) rfl rfl hl.1 rfl (lv_room (Nat.le_of_ble_eq_true rfl)) dL_law_1621 ⟨Nat.le_of_ble_eq_true rfl, Nat.le_of_ble_eq_true rfl⟩) hS (fun q _ h9 => wa_N had (by have := had 0 (by omega); omega) (by have := hS.1; omega) h9) (fun q h9 => wa_N had (by have := had 0 (by omega); omega) (by have := hS.1; omega) h9) (fun r u t H1 locs1 ht hvm hr9 hB hz8 hk1 hS => ?_)
  try dsimp only at hB
  rw [ht] at hB
  replace hm := hm.kept hk1 (fun q h7 h8 => wa_m had (by omega) (by omega) h7 h8)
  obtain ⟨g, hg1, hg2⟩ := hB
  rw [hr9]
  refine lv_istore (lv' := [(6, .int (tw_area (xs 1) (xs 2))), (5, .int (nI 0)), (4, .ref o2), (3, .ref o), (2, .ref m0), (1, .ref (ad 0)), (0, .ref b)]) hx hb dL_law_1624 hl (by decide) rfl (fun ls hl => ?_)
  refine lv_aload_n hx hb dL_law_1626 rfl (lv_at hl 4 rfl) ?_
  refine lv_aload_n hx hb dL_law_1627 rfl (lv_at hl 6 rfl) ?_
  refine lv_iload hx hb dL_law_1628 (lv_at hl 1 rfl) ?_
  refine lv_iconst (v := nI 1) hx hb dL_law_1630 (by decide) ?_
  refine lv_iadd hx hb dL_law_1631 ?_
  rw [nI_add]
  refine q_sld hx hb hX hbl (Nat.not_le.mpr hbl) hS 1 rfl (by omega) dL_law_1632 ?_
  refine lv_aload_n hx hb dL_law_1633 rfl (lv_at hl 6 rfl) ?_
  refine lv_iload hx hb dL_law_1634 (lv_at hl 1 rfl) ?_
  refine lv_iconst (v := nI 2) hx hb dL_law_1636 (by decide) ?_
  refine lv_iadd hx hb dL_law_1637 ?_
  rw [nI_add]
  refine q_sld hx hb hX hbl (Nat.not_le.mpr hbl) hS 2 rfl (by omega) dL_law_1638 ?_
  obtain ⟨z2, hq2⟩ : ∃ z : Nat, z = H1.size := ⟨_, rfl⟩
  have lm2 := hm.lt
  have lg := hg1.lt
  refine va_calli (va_runV (As := [.int (xs 1), .int (xs 2)]) (rest := []) ⟨hx, hb, hml, hown, hts⟩ (conX4_area l D T z2 m0 (nI 0) (xs 1) (xs 2)) (cwV 2 hts gL_law_X4_area rfl rfl rfl (by decide +kernel) ⟨Nat.le_of_ble_eq_true rfl, Nat.le_of_ble_eq_true rfl⟩) (preV hK hm.o rfl ⟨hq2.symm, hm⟩) rfl rfl hl.1 rfl (lv_room (Nat.le_of_ble_eq_true rfl)) dL_law_1639 ⟨Nat.le_of_ble_eq_true rfl, Nat.le_of_ble_eq_true rfl⟩) hS (fun q _ h9 => ma_N (had 0 (by omega)) (by have := hS.1; omega) h9) (fun q h9 => ma_N (had 0 (by omega)) (by have := hS.1; omega) h9) (fun r2 u2 t2 H2 locs2 ht2 hvm2 hr2 hB2 hz9 hk2 hS => ?_)
  try dsimp only at hB2
  rw [ht2] at hB2
  replace hg1 := hg1.kept (hk2 _ hg1.lt (fun h9 => ma_o (by omega) (by omega) h9))
  obtain ⟨vs, vv, hmt⟩ := hB2
  refine lv_istore (lv' := [(7, .int r2), (6, .int (tw_area (xs 1) (xs 2))), (5, .int (nI 0)), (4, .ref o2), (3, .ref o), (2, .ref m0), (1, .ref (ad 0)), (0, .ref b)]) hx hb dL_law_1642 hl (by decide) rfl (fun ls hl => ?_)
  refine lv_aload_n hx hb dL_law_1644 rfl (lv_at hl 5 rfl) ?_
  refine vp_callSi (va_runV (As := []) (rest := []) ⟨hx, hb, hml, hown, hts⟩ (conX4_thrown l D T m0 (tw_area (xs 1) (xs 2)) vs vv) (cwV 0 hts gL_law_X4_thrown rfl rfl rfl (by decide +kernel) ⟨Nat.le_of_ble_eq_true rfl, Nat.le_of_ble_eq_true rfl⟩) (preV hK hmt rfl hmt) rfl rfl hl.1 rfl (lv_room (Nat.le_of_ble_eq_true rfl)) dL_law_1645 ⟨Nat.le_of_ble_eq_true rfl, Nat.le_of_ble_eq_true rfl⟩).run (fun r3 hr3 => ?_)
  rw [hr3]
  refine lv_iload hx hb dL_law_1648 (lv_at hl 1 rfl) ?_
  refine lv_icmp_eq (tgt := 1655) hx hb dL_law_1650 (by decide) (fun c1650 => ?_) (fun c1650 => ?_)
  · skip
    refine lv_iload hx hb dL_law_1655 (lv_at hl 1 rfl) ?_
    refine lv_if_ne (tgt := 1672) hx hb dL_law_1657 (by decide) (fun c1657 => ?_) (fun c1657 => ?_)
    · skip
      refine lv_goto (tgt := 2402) hx hb dL_law_1672 (by decide) ?_
      refine W.widen (k := 1000) (n := 100000) (by decide) (by decide) ?_
      exact kk _ _ _ hS (lv_sub hl [2, 7] rfl)
    · skip
      refine lv_aload_n hx hb dL_law_1660 rfl (lv_at hl 4 rfl) ?_
      refine lv_iconst (v := nI 0) hx hb dL_law_1661 (by decide) ?_
      refine q_lald hx hb hK hg1 0 (rfl) (by omega) (by decide) dL_law_1662 ?_
      refine lv_iload hx hb dL_law_1663 (lv_at hl 0 rfl) ?_
      refine lv_i2l (v := r2.toInt64) hx hb dL_law_1665 rfl ?_
      refine W.lcmp hx hb dL_law_1666 ?_
      have hv9 : lg_cmp (g 0) r2.toInt64 = 0 := by rw [hg2 c1657, hr2 c1657]; exact lg_z _
      refine lv_if_eq (tgt := 1672) hx hb dL_law_1667 (by decide) (fun c1667 => ?_) (fun c1667 => ?_)
      · skip
        refine lv_goto (tgt := 2402) hx hb dL_law_1672 (by decide) ?_
        refine W.widen (k := 1000) (n := 100000) (by decide) (by decide) ?_
        exact kk _ _ _ hS (lv_sub hl [2, 7] rfl)
      · skip
        exact absurd hv9 c1667
  · skip
    exact absurd rfl c1650

set_option maxHeartbeats 4000000 in
set_option maxRecDepth 100000 in
theorem lc_mean {p : Program} {e : Env} {s : State} {m : MethodId} {below : List Frame} {meth : Method} {c : Code} {l : Launch} {b : Nat} {xs : Nat → Int32} {D : va_G} {T : Nat → ClassId} {ad : Nat → Nat} {m0 o o2 : Nat} {H : Heap} {locs : List Loc} {ls : Array Slot} {Q : State → Prop} (hlt : l.stackTraces = false) (hx : p.tables.exec = Jvm.exec) (hb : c.code = cL_law) (hr : meth.sig.returnType = ret) (hml : c.maxLocals = 9) (hown : s.vm.findClass RL = some m.cls) (hts : ∀ w ∈ wsL_law, w.before #[Value.ref b] s = true) (hK : KB D T s) (hKX : KX s.heap.size s) (hNc : va_Nc IAE IOB s) (hX : va_X b 6 xs s s.heap) (hbl : b < s.heap.size) (hS : va_S (fun q : Nat => s.heap.size ≤ q) s.heap H locs) (hw : PLW D T ad zz2 zz2 sr0 zr0 H) (hm : MF D T m0 (nI 0) H) (ho : pAt D H o (eL (T 6) 1 (fun _ => 0))) (ho2 : pAt D H o2 (eD (T 7) 1 (fun _ => 0))) (had : ∀ i : Nat, i < 37 → s.heap.size ≤ ad i ∧ ad i < m0) (hmo : m0 + 16 ≤ o) (hoo : o < o2) (hl : lv_has ls 9 [(5, .int (nI 0)), (4, .ref o2), (3, .ref o), (2, .ref m0), (1, .ref (ad 0)), (0, .ref b)]) (kk : ∀ (H1 : Heap) (locs1 : List Loc) (ls1 : Array Slot), va_S (fun q : Nat => s.heap.size ≤ q) s.heap H1 locs1 → lv_has ls1 9 [(5, .int (nI 0)), (0, .ref b)] → W p l e room_1 s m #[Value.ref b] below meth c H1 locs1 1000 100000 Q (F0 m 2402 ls1 [])) : W p l e room_1 s m #[Value.ref b] below meth c H locs 100 10000 Q (F0 m 1675 ls []) := by
  refine lv_aload_n hx hb dL_law_1675 rfl (lv_at hl 4 rfl) ?_
  refine lv_aload_n hx hb dL_law_1676 rfl (lv_at hl 5 rfl) ?_
  refine lv_iload hx hb dL_law_1677 (lv_at hl 0 rfl) ?_
  refine lv_iconst (v := nI 1) hx hb dL_law_1679 (by decide) ?_
  refine lv_iadd hx hb dL_law_1680 ?_
  rw [nI_add]
  refine q_sld hx hb hX hbl (Nat.not_le.mpr hbl) hS 1 rfl (by omega) dL_law_1681 ?_
  refine lv_aload_n hx hb dL_law_1682 rfl (lv_at hl 5 rfl) ?_
  refine lv_iload hx hb dL_law_1683 (lv_at hl 0 rfl) ?_
  refine lv_iconst (v := nI 2) hx hb dL_law_1685 (by decide) ?_
  refine lv_iadd hx hb dL_law_1686 ?_
  rw [nI_add]
  refine q_sld hx hb hX hbl (Nat.not_le.mpr hbl) hS 2 rfl (by omega) dL_law_1687 ?_
  refine lv_aload hx hb dL_law_1688 (lv_at hl 1 rfl) ?_
  obtain ⟨z1, hq1⟩ : ∃ z : Nat, z = H.size := ⟨_, rfl⟩
  have lm := hm.lt
  have lo := ho2.lt
  refine va_calli (vx_runSW (As := [.ref (ad 0), .int (xs 1), .int (xs 2), .ref o2]) (rest := []) ⟨hx, hb, hml, hown, hts⟩ (wr_mean l hlt D T s.heap.size z1 o2 ad _ (xs 1) (xs 2) (fun i hi => (had i hi).1) (by have := hS.1; omega) (fun i hi => by have := had i hi; omega)) (vx_cwSW 4 hts gL_law_L_mean rfl rfl rfl (by decide +kernel) ⟨Nat.le_of_ble_eq_true rfl, Nat.le_of_ble_eq_true rfl⟩) (preW hK hKX.1 (fun U hU hA => hKX.2.kept hA (fun a h1 h2 => by rw [hU]; exact hS.2.1 a h1 h2)) hNc ⟨hq1.symm, hw, ho2⟩) rfl rfl hl.1 rfl (lv_room (Nat.le_of_ble_eq_true rfl)) dL_law_1690 ⟨Nat.le_of_ble_eq_true rfl, Nat.le_of_ble_eq_true rfl⟩) hS (fun q _ h9 => wa_N had (by have := had 0 (by omega); omega) (by have := hS.1; omega) h9) (fun q h9 => wa_N had (by have := had 0 (by omega); omega) (by have := hS.1; omega) h9) (fun r u t H1 locs1 ht hvm hr9 hB hz8 hk1 hS => ?_)
  try dsimp only at hB
  rw [ht] at hB
  replace hm := hm.kept hk1 (fun q h7 h8 => wa_m had (by omega) (by omega) h7 h8)
  obtain ⟨g, hg1, hg2⟩ := hB
  rw [hr9]
  refine lv_istore (lv' := [(6, .int (tw_mean (xs 1) (xs 2))), (5, .int (nI 0)), (4, .ref o2), (3, .ref o), (2, .ref m0), (1, .ref (ad 0)), (0, .ref b)]) hx hb dL_law_1693 hl (by decide) rfl (fun ls hl => ?_)
  refine lv_aload_n hx hb dL_law_1695 rfl (lv_at hl 4 rfl) ?_
  refine lv_aload_n hx hb dL_law_1696 rfl (lv_at hl 6 rfl) ?_
  refine lv_iload hx hb dL_law_1697 (lv_at hl 1 rfl) ?_
  refine lv_iconst (v := nI 1) hx hb dL_law_1699 (by decide) ?_
  refine lv_iadd hx hb dL_law_1700 ?_
  rw [nI_add]
  refine q_sld hx hb hX hbl (Nat.not_le.mpr hbl) hS 1 rfl (by omega) dL_law_1701 ?_
  refine lv_aload_n hx hb dL_law_1702 rfl (lv_at hl 6 rfl) ?_
  refine lv_iload hx hb dL_law_1703 (lv_at hl 1 rfl) ?_
  refine lv_iconst (v := nI 2) hx hb dL_law_1705 (by decide) ?_
  refine lv_iadd hx hb dL_law_1706 ?_
  rw [nI_add]
  refine q_sld hx hb hX hbl (Nat.not_le.mpr hbl) hS 2 rfl (by omega) dL_law_1707 ?_
  obtain ⟨z2, hq2⟩ : ∃ z : Nat, z = H1.size := ⟨_, rfl⟩
  have lm2 := hm.lt
  have lg := hg1.lt
  refine va_calld (va_runV (As := [.int (xs 1), .int (xs 2)]) (rest := []) ⟨hx, hb, hml, hown, hts⟩ (conX4_mean l D T z2 m0 (nI 0) (xs 1) (xs 2)) (cwV 2 hts gL_law_X4_mean rfl rfl rfl (by decide +kernel) ⟨Nat.le_of_ble_eq_true rfl, Nat.le_of_ble_eq_true rfl⟩) (preV hK hm.o rfl ⟨hq2.symm, hm⟩) rfl rfl hl.1 rfl (lv_room (Nat.le_of_ble_eq_true rfl)) dL_law_1708 ⟨Nat.le_of_ble_eq_true rfl, Nat.le_of_ble_eq_true rfl⟩) hS (fun q _ h9 => ma_N (had 0 (by omega)) (by have := hS.1; omega) h9) (fun q h9 => ma_N (had 0 (by omega)) (by have := hS.1; omega) h9) (fun r2 u2 t2 H2 locs2 ht2 hvm2 hr2 hB2 hz9 hk2 hS => ?_)
  try dsimp only at hB2
  rw [ht2] at hB2
  replace hg1 := hg1.kept (hk2 _ hg1.lt (fun h9 => ma_o (by omega) (by omega) h9))
  obtain ⟨vs, vv, hmt⟩ := hB2
  refine lv_dstore (lv' := [(7, .double r2), (6, .int (tw_mean (xs 1) (xs 2))), (5, .int (nI 0)), (4, .ref o2), (3, .ref o), (2, .ref m0), (1, .ref (ad 0)), (0, .ref b)]) hx hb dL_law_1711 hl (by decide) rfl (fun ls hl => ?_)
  refine lv_aload_n hx hb dL_law_1713 rfl (lv_at hl 5 rfl) ?_
  refine vp_callSi (va_runV (As := []) (rest := []) ⟨hx, hb, hml, hown, hts⟩ (conX4_thrown l D T m0 (tw_mean (xs 1) (xs 2)) vs vv) (cwV 0 hts gL_law_X4_thrown rfl rfl rfl (by decide +kernel) ⟨Nat.le_of_ble_eq_true rfl, Nat.le_of_ble_eq_true rfl⟩) (preV hK hmt rfl hmt) rfl rfl hl.1 rfl (lv_room (Nat.le_of_ble_eq_true rfl)) dL_law_1714 ⟨Nat.le_of_ble_eq_true rfl, Nat.le_of_ble_eq_true rfl⟩).run (fun r3 hr3 => ?_)
  rw [hr3]
  refine lv_iload hx hb dL_law_1717 (lv_at hl 1 rfl) ?_
  refine lv_icmp_eq (tgt := 1724) hx hb dL_law_1719 (by decide) (fun c1719 => ?_) (fun c1719 => ?_)
  · skip
    refine lv_iload hx hb dL_law_1724 (lv_at hl 1 rfl) ?_
    refine lv_if_ne (tgt := 1761) hx hb dL_law_1726 (by decide) (fun c1726 => ?_) (fun c1726 => ?_)
    · skip
      refine lv_goto (tgt := 2402) hx hb dL_law_1761 (by decide) ?_
      refine W.widen (k := 1000) (n := 100000) (by decide) (by decide) ?_
      exact kk _ _ _ hS (lv_sub hl [2, 7] rfl)
    · skip
      refine lv_aload hx hb dL_law_1729 (lv_at hl 3 rfl) ?_
      refine lv_iconst (v := nI 0) hx hb dL_law_1731 (by decide) ?_
      refine q_dald hx hb hK hg1 0 (rfl) (by omega) (by decide) dL_law_1732 ?_
      refine lv_dload hx hb dL_law_1733 (lv_at hl 0 rfl) ?_
      refine lv_dcmp hx hb dL_law_1735 ?_
      have hv9 : Op.cmpValue (FP.dcmp (g 0) r2) .l = 0 := by rw [hg2 c1726, hr2 c1726]; exact dc_z
      refine lv_if_eq (tgt := 1761) hx hb dL_law_1736 (by decide) (fun c1736 => ?_) (fun c1736 => ?_)
      · skip
        refine lv_goto (tgt := 2402) hx hb dL_law_1761 (by decide) ?_
        refine W.widen (k := 1000) (n := 100000) (by decide) (by decide) ?_
        exact kk _ _ _ hS (lv_sub hl [2, 7] rfl)
      · skip
        exact absurd hv9 c1736
  · skip
    exact absurd rfl c1719

set_option maxHeartbeats 4000000 in
set_option maxRecDepth 100000 in
theorem lc_thicker {p : Program} {e : Env} {s : State} {m : MethodId} {below : List Frame} {meth : Method} {c : Code} {l : Launch} {b : Nat} {xs : Nat → Int32} {D : va_G} {T : Nat → ClassId} {ad : Nat → Nat} {m0 o o2 : Nat} {H : Heap} {locs : List Loc} {ls : Array Slot} {Q : State → Prop} (hlt : l.stackTraces = false) (hx : p.tables.exec = Jvm.exec) (hb : c.code = cL_law) (hr : meth.sig.returnType = ret) (hml : c.maxLocals = 9) (hown : s.vm.findClass RL = some m.cls) (hts : ∀ w ∈ wsL_law, w.before #[Value.ref b] s = true) (hK : KB D T s) (hKX : KX s.heap.size s) (hNc : va_Nc IAE IOB s) (hX : va_X b 6 xs s s.heap) (hbl : b < s.heap.size) (hS : va_S (fun q : Nat => s.heap.size ≤ q) s.heap H locs) (hw : PLW D T ad zz2 zz2 sr0 zr0 H) (hm : MF D T m0 (nI 0) H) (ho : pAt D H o (eL (T 6) 1 (fun _ => 0))) (ho2 : pAt D H o2 (eD (T 7) 1 (fun _ => 0))) (had : ∀ i : Nat, i < 37 → s.heap.size ≤ ad i ∧ ad i < m0) (hmo : m0 + 16 ≤ o) (hoo : o < o2) (hl : lv_has ls 9 [(5, .int (nI 0)), (4, .ref o2), (3, .ref o), (2, .ref m0), (1, .ref (ad 0)), (0, .ref b)]) (kk : ∀ (H1 : Heap) (locs1 : List Loc) (ls1 : Array Slot), va_S (fun q : Nat => s.heap.size ≤ q) s.heap H1 locs1 → lv_has ls1 9 [(5, .int (nI 0)), (0, .ref b)] → W p l e room_1 s m #[Value.ref b] below meth c H1 locs1 1000 100000 Q (F0 m 2402 ls1 [])) : W p l e room_1 s m #[Value.ref b] below meth c H locs 100 10000 Q (F0 m 1764 ls []) := by
  refine lv_aload_n hx hb dL_law_1764 rfl (lv_at hl 4 rfl) ?_
  refine lv_aload_n hx hb dL_law_1765 rfl (lv_at hl 5 rfl) ?_
  refine lv_iload hx hb dL_law_1766 (lv_at hl 0 rfl) ?_
  refine lv_iconst (v := nI 1) hx hb dL_law_1768 (by decide) ?_
  refine lv_iadd hx hb dL_law_1769 ?_
  rw [nI_add]
  refine q_sld hx hb hX hbl (Nat.not_le.mpr hbl) hS 1 rfl (by omega) dL_law_1770 ?_
  refine lv_aload_n hx hb dL_law_1771 rfl (lv_at hl 5 rfl) ?_
  refine lv_iload hx hb dL_law_1772 (lv_at hl 0 rfl) ?_
  refine lv_iconst (v := nI 2) hx hb dL_law_1774 (by decide) ?_
  refine lv_iadd hx hb dL_law_1775 ?_
  rw [nI_add]
  refine q_sld hx hb hX hbl (Nat.not_le.mpr hbl) hS 2 rfl (by omega) dL_law_1776 ?_
  refine lv_aload_n hx hb dL_law_1777 rfl (lv_at hl 2 rfl) ?_
  obtain ⟨z1, hq1⟩ : ∃ z : Nat, z = H.size := ⟨_, rfl⟩
  have lm := hm.lt
  have lo := ho.lt
  refine va_calli (vx_runSW (As := [.ref (ad 0), .int (xs 1), .int (xs 2), .ref o]) (rest := []) ⟨hx, hb, hml, hown, hts⟩ (wr_thicker l hlt D T s.heap.size z1 o ad _ (xs 1) (xs 2) (fun i hi => (had i hi).1) (by have := hS.1; omega) (fun i hi => by have := had i hi; omega)) (vx_cwSW 4 hts gL_law_L_thicker rfl rfl rfl (by decide +kernel) ⟨Nat.le_of_ble_eq_true rfl, Nat.le_of_ble_eq_true rfl⟩) (preW hK hKX.1 (fun U hU hA => hKX.2.kept hA (fun a h1 h2 => by rw [hU]; exact hS.2.1 a h1 h2)) hNc ⟨hq1.symm, hw, ho⟩) rfl rfl hl.1 rfl (lv_room (Nat.le_of_ble_eq_true rfl)) dL_law_1778 ⟨Nat.le_of_ble_eq_true rfl, Nat.le_of_ble_eq_true rfl⟩) hS (fun q _ h9 => wa_N had (by have := had 0 (by omega); omega) (by have := hS.1; omega) h9) (fun q h9 => wa_N had (by have := had 0 (by omega); omega) (by have := hS.1; omega) h9) (fun r u t H1 locs1 ht hvm hr9 hB hz8 hk1 hS => ?_)
  try dsimp only at hB
  rw [ht] at hB
  replace hm := hm.kept hk1 (fun q h7 h8 => wa_m had (by omega) (by omega) h7 h8)
  obtain ⟨g, hg1, hg2⟩ := hB
  rw [hr9]
  refine lv_istore (lv' := [(6, .int (tw_thicker (xs 1) (xs 2))), (5, .int (nI 0)), (4, .ref o2), (3, .ref o), (2, .ref m0), (1, .ref (ad 0)), (0, .ref b)]) hx hb dL_law_1781 hl (by decide) rfl (fun ls hl => ?_)
  refine lv_aload_n hx hb dL_law_1783 rfl (lv_at hl 4 rfl) ?_
  refine lv_aload_n hx hb dL_law_1784 rfl (lv_at hl 6 rfl) ?_
  refine lv_iload hx hb dL_law_1785 (lv_at hl 1 rfl) ?_
  refine lv_iconst (v := nI 1) hx hb dL_law_1787 (by decide) ?_
  refine lv_iadd hx hb dL_law_1788 ?_
  rw [nI_add]
  refine q_sld hx hb hX hbl (Nat.not_le.mpr hbl) hS 1 rfl (by omega) dL_law_1789 ?_
  refine lv_aload_n hx hb dL_law_1790 rfl (lv_at hl 6 rfl) ?_
  refine lv_iload hx hb dL_law_1791 (lv_at hl 1 rfl) ?_
  refine lv_iconst (v := nI 2) hx hb dL_law_1793 (by decide) ?_
  refine lv_iadd hx hb dL_law_1794 ?_
  rw [nI_add]
  refine q_sld hx hb hX hbl (Nat.not_le.mpr hbl) hS 2 rfl (by omega) dL_law_1795 ?_
  obtain ⟨z2, hq2⟩ : ∃ z : Nat, z = H1.size := ⟨_, rfl⟩
  have lm2 := hm.lt
  have lg := hg1.lt
  refine va_calli (va_runV (As := [.int (xs 1), .int (xs 2)]) (rest := []) ⟨hx, hb, hml, hown, hts⟩ (conX4_thicker l D T z2 m0 (nI 0) (xs 1) (xs 2)) (cwV 2 hts gL_law_X4_thicker rfl rfl rfl (by decide +kernel) ⟨Nat.le_of_ble_eq_true rfl, Nat.le_of_ble_eq_true rfl⟩) (preV hK hm.o rfl ⟨hq2.symm, hm⟩) rfl rfl hl.1 rfl (lv_room (Nat.le_of_ble_eq_true rfl)) dL_law_1796 ⟨Nat.le_of_ble_eq_true rfl, Nat.le_of_ble_eq_true rfl⟩) hS (fun q _ h9 => ma_N (had 0 (by omega)) (by have := hS.1; omega) h9) (fun q h9 => ma_N (had 0 (by omega)) (by have := hS.1; omega) h9) (fun r2 u2 t2 H2 locs2 ht2 hvm2 hr2 hB2 hz9 hk2 hS => ?_)
  try dsimp only at hB2
  rw [ht2] at hB2
  replace hg1 := hg1.kept (hk2 _ hg1.lt (fun h9 => ma_o (by omega) (by omega) h9))
  obtain ⟨vs, vv, hmt⟩ := hB2
  refine lv_istore (lv' := [(7, .int r2), (6, .int (tw_thicker (xs 1) (xs 2))), (5, .int (nI 0)), (4, .ref o2), (3, .ref o), (2, .ref m0), (1, .ref (ad 0)), (0, .ref b)]) hx hb dL_law_1799 hl (by decide) rfl (fun ls hl => ?_)
  refine lv_aload_n hx hb dL_law_1801 rfl (lv_at hl 5 rfl) ?_
  refine vp_callSi (va_runV (As := []) (rest := []) ⟨hx, hb, hml, hown, hts⟩ (conX4_thrown l D T m0 (tw_thicker (xs 1) (xs 2)) vs vv) (cwV 0 hts gL_law_X4_thrown rfl rfl rfl (by decide +kernel) ⟨Nat.le_of_ble_eq_true rfl, Nat.le_of_ble_eq_true rfl⟩) (preV hK hmt rfl hmt) rfl rfl hl.1 rfl (lv_room (Nat.le_of_ble_eq_true rfl)) dL_law_1802 ⟨Nat.le_of_ble_eq_true rfl, Nat.le_of_ble_eq_true rfl⟩).run (fun r3 hr3 => ?_)
  rw [hr3]
  refine lv_iload hx hb dL_law_1805 (lv_at hl 1 rfl) ?_
  refine lv_icmp_eq (tgt := 1812) hx hb dL_law_1807 (by decide) (fun c1807 => ?_) (fun c1807 => ?_)
  · skip
    refine lv_iload hx hb dL_law_1812 (lv_at hl 1 rfl) ?_
    refine lv_if_ne (tgt := 1829) hx hb dL_law_1814 (by decide) (fun c1814 => ?_) (fun c1814 => ?_)
    · skip
      refine lv_goto (tgt := 2402) hx hb dL_law_1829 (by decide) ?_
      refine W.widen (k := 1000) (n := 100000) (by decide) (by decide) ?_
      exact kk _ _ _ hS (lv_sub hl [2, 7] rfl)
    · skip
      refine lv_aload_n hx hb dL_law_1817 rfl (lv_at hl 4 rfl) ?_
      refine lv_iconst (v := nI 0) hx hb dL_law_1818 (by decide) ?_
      refine q_lald hx hb hK hg1 0 (rfl) (by omega) (by decide) dL_law_1819 ?_
      refine lv_iload hx hb dL_law_1820 (lv_at hl 0 rfl) ?_
      refine lv_i2l (v := r2.toInt64) hx hb dL_law_1822 rfl ?_
      refine W.lcmp hx hb dL_law_1823 ?_
      have hv9 : lg_cmp (g 0) r2.toInt64 = 0 := by rw [hg2 c1814, hr2 c1814]; exact lg_z _
      refine lv_if_eq (tgt := 1829) hx hb dL_law_1824 (by decide) (fun c1824 => ?_) (fun c1824 => ?_)
      · skip
        refine lv_goto (tgt := 2402) hx hb dL_law_1829 (by decide) ?_
        refine W.widen (k := 1000) (n := 100000) (by decide) (by decide) ?_
        exact kk _ _ _ hS (lv_sub hl [2, 7] rfl)
      · skip
        exact absurd hv9 c1824
  · skip
    exact absurd rfl c1807

set_option maxHeartbeats 4000000 in
set_option maxRecDepth 100000 in
theorem lc_cover {p : Program} {e : Env} {s : State} {m : MethodId} {below : List Frame} {meth : Method} {c : Code} {l : Launch} {b : Nat} {xs : Nat → Int32} {D : va_G} {T : Nat → ClassId} {ad : Nat → Nat} {m0 o o2 : Nat} {H : Heap} {locs : List Loc} {ls : Array Slot} {Q : State → Prop} (hlt : l.stackTraces = false) (hx : p.tables.exec = Jvm.exec) (hb : c.code = cL_law) (hr : meth.sig.returnType = ret) (hml : c.maxLocals = 9) (hown : s.vm.findClass RL = some m.cls) (hts : ∀ w ∈ wsL_law, w.before #[Value.ref b] s = true) (hK : KB D T s) (hKX : KX s.heap.size s) (hNc : va_Nc IAE IOB s) (hX : va_X b 6 xs s s.heap) (hbl : b < s.heap.size) (hS : va_S (fun q : Nat => s.heap.size ≤ q) s.heap H locs) (hw : PLW D T ad zz2 zz2 sr0 zr0 H) (hm : MF D T m0 (nI 0) H) (ho : pAt D H o (eL (T 6) 1 (fun _ => 0))) (ho2 : pAt D H o2 (eD (T 7) 1 (fun _ => 0))) (had : ∀ i : Nat, i < 37 → s.heap.size ≤ ad i ∧ ad i < m0) (hmo : m0 + 16 ≤ o) (hoo : o < o2) (hl : lv_has ls 9 [(5, .int (nI 0)), (4, .ref o2), (3, .ref o), (2, .ref m0), (1, .ref (ad 0)), (0, .ref b)]) (kk : ∀ (H1 : Heap) (locs1 : List Loc) (ls1 : Array Slot), va_S (fun q : Nat => s.heap.size ≤ q) s.heap H1 locs1 → lv_has ls1 9 [(5, .int (nI 0)), (0, .ref b)] → W p l e room_1 s m #[Value.ref b] below meth c H1 locs1 1000 100000 Q (F0 m 2402 ls1 [])) : W p l e room_1 s m #[Value.ref b] below meth c H locs 100 10000 Q (F0 m 1832 ls []) := by
  refine lv_aload_n hx hb dL_law_1832 rfl (lv_at hl 4 rfl) ?_
  refine lv_aload_n hx hb dL_law_1833 rfl (lv_at hl 5 rfl) ?_
  refine lv_iload hx hb dL_law_1834 (lv_at hl 0 rfl) ?_
  refine lv_iconst (v := nI 1) hx hb dL_law_1836 (by decide) ?_
  refine lv_iadd hx hb dL_law_1837 ?_
  rw [nI_add]
  refine q_sld hx hb hX hbl (Nat.not_le.mpr hbl) hS 1 rfl (by omega) dL_law_1838 ?_
  refine lv_aload_n hx hb dL_law_1839 rfl (lv_at hl 5 rfl) ?_
  refine lv_iload hx hb dL_law_1840 (lv_at hl 0 rfl) ?_
  refine lv_iconst (v := nI 2) hx hb dL_law_1842 (by decide) ?_
  refine lv_iadd hx hb dL_law_1843 ?_
  rw [nI_add]
  refine q_sld hx hb hX hbl (Nat.not_le.mpr hbl) hS 2 rfl (by omega) dL_law_1844 ?_
  refine lv_aload_n hx hb dL_law_1845 rfl (lv_at hl 2 rfl) ?_
  obtain ⟨z1, hq1⟩ : ∃ z : Nat, z = H.size := ⟨_, rfl⟩
  have lm := hm.lt
  have lo := ho.lt
  refine va_calli (vx_runSW (As := [.ref (ad 0), .int (xs 1), .int (xs 2), .ref o]) (rest := []) ⟨hx, hb, hml, hown, hts⟩ (wr_cover l hlt D T s.heap.size z1 o ad _ (xs 1) (xs 2) (fun i hi => (had i hi).1) (by have := hS.1; omega) (fun i hi => by have := had i hi; omega)) (vx_cwSW 4 hts gL_law_L_cover rfl rfl rfl (by decide +kernel) ⟨Nat.le_of_ble_eq_true rfl, Nat.le_of_ble_eq_true rfl⟩) (preW hK hKX.1 (fun U hU hA => hKX.2.kept hA (fun a h1 h2 => by rw [hU]; exact hS.2.1 a h1 h2)) hNc ⟨hq1.symm, hw, ho⟩) rfl rfl hl.1 rfl (lv_room (Nat.le_of_ble_eq_true rfl)) dL_law_1846 ⟨Nat.le_of_ble_eq_true rfl, Nat.le_of_ble_eq_true rfl⟩) hS (fun q _ h9 => wa_N had (by have := had 0 (by omega); omega) (by have := hS.1; omega) h9) (fun q h9 => wa_N had (by have := had 0 (by omega); omega) (by have := hS.1; omega) h9) (fun r u t H1 locs1 ht hvm hr9 hB hz8 hk1 hS => ?_)
  try dsimp only at hB
  rw [ht] at hB
  replace hm := hm.kept hk1 (fun q h7 h8 => wa_m had (by omega) (by omega) h7 h8)
  obtain ⟨g, hg1, hg2⟩ := hB
  rw [hr9]
  refine lv_istore (lv' := [(6, .int (tw_cover (xs 1) (xs 2))), (5, .int (nI 0)), (4, .ref o2), (3, .ref o), (2, .ref m0), (1, .ref (ad 0)), (0, .ref b)]) hx hb dL_law_1849 hl (by decide) rfl (fun ls hl => ?_)
  refine lv_aload_n hx hb dL_law_1851 rfl (lv_at hl 4 rfl) ?_
  refine lv_aload_n hx hb dL_law_1852 rfl (lv_at hl 6 rfl) ?_
  refine lv_iload hx hb dL_law_1853 (lv_at hl 1 rfl) ?_
  refine lv_iconst (v := nI 1) hx hb dL_law_1855 (by decide) ?_
  refine lv_iadd hx hb dL_law_1856 ?_
  rw [nI_add]
  refine q_sld hx hb hX hbl (Nat.not_le.mpr hbl) hS 1 rfl (by omega) dL_law_1857 ?_
  refine lv_aload_n hx hb dL_law_1858 rfl (lv_at hl 6 rfl) ?_
  refine lv_iload hx hb dL_law_1859 (lv_at hl 1 rfl) ?_
  refine lv_iconst (v := nI 2) hx hb dL_law_1861 (by decide) ?_
  refine lv_iadd hx hb dL_law_1862 ?_
  rw [nI_add]
  refine q_sld hx hb hX hbl (Nat.not_le.mpr hbl) hS 2 rfl (by omega) dL_law_1863 ?_
  obtain ⟨z2, hq2⟩ : ∃ z : Nat, z = H1.size := ⟨_, rfl⟩
  have lm2 := hm.lt
  have lg := hg1.lt
  refine va_calli (va_runV (As := [.int (xs 1), .int (xs 2)]) (rest := []) ⟨hx, hb, hml, hown, hts⟩ (conX4_cover l D T z2 m0 (nI 0) (xs 1) (xs 2)) (cwV 2 hts gL_law_X4_cover rfl rfl rfl (by decide +kernel) ⟨Nat.le_of_ble_eq_true rfl, Nat.le_of_ble_eq_true rfl⟩) (preV hK hm.o rfl ⟨hq2.symm, hm⟩) rfl rfl hl.1 rfl (lv_room (Nat.le_of_ble_eq_true rfl)) dL_law_1864 ⟨Nat.le_of_ble_eq_true rfl, Nat.le_of_ble_eq_true rfl⟩) hS (fun q _ h9 => ma_N (had 0 (by omega)) (by have := hS.1; omega) h9) (fun q h9 => ma_N (had 0 (by omega)) (by have := hS.1; omega) h9) (fun r2 u2 t2 H2 locs2 ht2 hvm2 hr2 hB2 hz9 hk2 hS => ?_)
  try dsimp only at hB2
  rw [ht2] at hB2
  replace hg1 := hg1.kept (hk2 _ hg1.lt (fun h9 => ma_o (by omega) (by omega) h9))
  obtain ⟨vs, vv, hmt⟩ := hB2
  refine lv_istore (lv' := [(7, .int r2), (6, .int (tw_cover (xs 1) (xs 2))), (5, .int (nI 0)), (4, .ref o2), (3, .ref o), (2, .ref m0), (1, .ref (ad 0)), (0, .ref b)]) hx hb dL_law_1867 hl (by decide) rfl (fun ls hl => ?_)
  refine lv_aload_n hx hb dL_law_1869 rfl (lv_at hl 5 rfl) ?_
  refine vp_callSi (va_runV (As := []) (rest := []) ⟨hx, hb, hml, hown, hts⟩ (conX4_thrown l D T m0 (tw_cover (xs 1) (xs 2)) vs vv) (cwV 0 hts gL_law_X4_thrown rfl rfl rfl (by decide +kernel) ⟨Nat.le_of_ble_eq_true rfl, Nat.le_of_ble_eq_true rfl⟩) (preV hK hmt rfl hmt) rfl rfl hl.1 rfl (lv_room (Nat.le_of_ble_eq_true rfl)) dL_law_1870 ⟨Nat.le_of_ble_eq_true rfl, Nat.le_of_ble_eq_true rfl⟩).run (fun r3 hr3 => ?_)
  rw [hr3]
  refine lv_iload hx hb dL_law_1873 (lv_at hl 1 rfl) ?_
  refine lv_icmp_eq (tgt := 1880) hx hb dL_law_1875 (by decide) (fun c1875 => ?_) (fun c1875 => ?_)
  · skip
    refine lv_iload hx hb dL_law_1880 (lv_at hl 1 rfl) ?_
    refine lv_if_ne (tgt := 1897) hx hb dL_law_1882 (by decide) (fun c1882 => ?_) (fun c1882 => ?_)
    · skip
      refine lv_goto (tgt := 2402) hx hb dL_law_1897 (by decide) ?_
      refine W.widen (k := 1000) (n := 100000) (by decide) (by decide) ?_
      exact kk _ _ _ hS (lv_sub hl [2, 7] rfl)
    · skip
      refine lv_aload_n hx hb dL_law_1885 rfl (lv_at hl 4 rfl) ?_
      refine lv_iconst (v := nI 0) hx hb dL_law_1886 (by decide) ?_
      refine q_lald hx hb hK hg1 0 (rfl) (by omega) (by decide) dL_law_1887 ?_
      refine lv_iload hx hb dL_law_1888 (lv_at hl 0 rfl) ?_
      refine lv_i2l (v := r2.toInt64) hx hb dL_law_1890 rfl ?_
      refine W.lcmp hx hb dL_law_1891 ?_
      have hv9 : lg_cmp (g 0) r2.toInt64 = 0 := by rw [hg2 c1882, hr2 c1882]; exact lg_z _
      refine lv_if_eq (tgt := 1897) hx hb dL_law_1892 (by decide) (fun c1892 => ?_) (fun c1892 => ?_)
      · skip
        refine lv_goto (tgt := 2402) hx hb dL_law_1897 (by decide) ?_
        refine W.widen (k := 1000) (n := 100000) (by decide) (by decide) ?_
        exact kk _ _ _ hS (lv_sub hl [2, 7] rfl)
      · skip
        exact absurd hv9 c1892
  · skip
    exact absurd rfl c1875

set_option maxHeartbeats 4000000 in
set_option maxRecDepth 100000 in
theorem lc_covers {p : Program} {e : Env} {s : State} {m : MethodId} {below : List Frame} {meth : Method} {c : Code} {l : Launch} {b : Nat} {xs : Nat → Int32} {D : va_G} {T : Nat → ClassId} {ad : Nat → Nat} {m0 o o2 : Nat} {H : Heap} {locs : List Loc} {ls : Array Slot} {Q : State → Prop} (hlt : l.stackTraces = false) (hx : p.tables.exec = Jvm.exec) (hb : c.code = cL_law) (hr : meth.sig.returnType = ret) (hml : c.maxLocals = 9) (hown : s.vm.findClass RL = some m.cls) (hts : ∀ w ∈ wsL_law, w.before #[Value.ref b] s = true) (hK : KB D T s) (hKX : KX s.heap.size s) (hNc : va_Nc IAE IOB s) (hX : va_X b 6 xs s s.heap) (hbl : b < s.heap.size) (hS : va_S (fun q : Nat => s.heap.size ≤ q) s.heap H locs) (hw : PLW D T ad zz2 zz2 sr0 zr0 H) (hm : MF D T m0 (nI 0) H) (ho : pAt D H o (eL (T 6) 1 (fun _ => 0))) (ho2 : pAt D H o2 (eD (T 7) 1 (fun _ => 0))) (had : ∀ i : Nat, i < 37 → s.heap.size ≤ ad i ∧ ad i < m0) (hmo : m0 + 16 ≤ o) (hoo : o < o2) (hl : lv_has ls 9 [(5, .int (nI 0)), (4, .ref o2), (3, .ref o), (2, .ref m0), (1, .ref (ad 0)), (0, .ref b)]) (kk : ∀ (H1 : Heap) (locs1 : List Loc) (ls1 : Array Slot), va_S (fun q : Nat => s.heap.size ≤ q) s.heap H1 locs1 → lv_has ls1 9 [(5, .int (nI 0)), (0, .ref b)] → W p l e room_1 s m #[Value.ref b] below meth c H1 locs1 1000 100000 Q (F0 m 2402 ls1 [])) : W p l e room_1 s m #[Value.ref b] below meth c H locs 100 10000 Q (F0 m 1900 ls []) := by
  refine lv_aload_n hx hb dL_law_1900 rfl (lv_at hl 4 rfl) ?_
  refine lv_aload_n hx hb dL_law_1901 rfl (lv_at hl 5 rfl) ?_
  refine lv_iload hx hb dL_law_1902 (lv_at hl 0 rfl) ?_
  refine lv_iconst (v := nI 1) hx hb dL_law_1904 (by decide) ?_
  refine lv_iadd hx hb dL_law_1905 ?_
  rw [nI_add]
  refine q_sld hx hb hX hbl (Nat.not_le.mpr hbl) hS 1 rfl (by omega) dL_law_1906 ?_
  refine lv_aload_n hx hb dL_law_1907 rfl (lv_at hl 5 rfl) ?_
  refine lv_iload hx hb dL_law_1908 (lv_at hl 0 rfl) ?_
  refine lv_iconst (v := nI 2) hx hb dL_law_1910 (by decide) ?_
  refine lv_iadd hx hb dL_law_1911 ?_
  rw [nI_add]
  refine q_sld hx hb hX hbl (Nat.not_le.mpr hbl) hS 2 rfl (by omega) dL_law_1912 ?_
  refine lv_aload_n hx hb dL_law_1913 rfl (lv_at hl 5 rfl) ?_
  refine lv_iload hx hb dL_law_1914 (lv_at hl 0 rfl) ?_
  refine lv_iconst (v := nI 3) hx hb dL_law_1916 (by decide) ?_
  refine lv_iadd hx hb dL_law_1917 ?_
  rw [nI_add]
  refine q_sld hx hb hX hbl (Nat.not_le.mpr hbl) hS 3 rfl (by omega) dL_law_1918 ?_
  refine lv_aload_n hx hb dL_law_1919 rfl (lv_at hl 2 rfl) ?_
  obtain ⟨z1, hq1⟩ : ∃ z : Nat, z = H.size := ⟨_, rfl⟩
  have lm := hm.lt
  have lo := ho.lt
  refine va_calli (vx_runSW (As := [.ref (ad 0), .int (xs 1), .int (xs 2), .int (xs 3), .ref o]) (rest := []) ⟨hx, hb, hml, hown, hts⟩ (wr_covers l hlt D T s.heap.size z1 o ad _ (xs 1) (xs 2) (xs 3) (fun i hi => (had i hi).1) (by have := hS.1; omega) (fun i hi => by have := had i hi; omega)) (vx_cwSW 5 hts gL_law_L_covers rfl rfl rfl (by decide +kernel) ⟨Nat.le_of_ble_eq_true rfl, Nat.le_of_ble_eq_true rfl⟩) (preW hK hKX.1 (fun U hU hA => hKX.2.kept hA (fun a h1 h2 => by rw [hU]; exact hS.2.1 a h1 h2)) hNc ⟨hq1.symm, hw, ho⟩) rfl rfl hl.1 rfl (lv_room (Nat.le_of_ble_eq_true rfl)) dL_law_1920 ⟨Nat.le_of_ble_eq_true rfl, Nat.le_of_ble_eq_true rfl⟩) hS (fun q _ h9 => wa_N had (by have := had 0 (by omega); omega) (by have := hS.1; omega) h9) (fun q h9 => wa_N had (by have := had 0 (by omega); omega) (by have := hS.1; omega) h9) (fun r u t H1 locs1 ht hvm hr9 hB hz8 hk1 hS => ?_)
  try dsimp only at hB
  rw [ht] at hB
  replace hm := hm.kept hk1 (fun q h7 h8 => wa_m had (by omega) (by omega) h7 h8)
  obtain ⟨g, hg1, hg2⟩ := hB
  rw [hr9]
  refine lv_istore (lv' := [(6, .int (tw_covers (xs 1) (xs 2) (xs 3))), (5, .int (nI 0)), (4, .ref o2), (3, .ref o), (2, .ref m0), (1, .ref (ad 0)), (0, .ref b)]) hx hb dL_law_1923 hl (by decide) rfl (fun ls hl => ?_)
  refine lv_aload_n hx hb dL_law_1925 rfl (lv_at hl 4 rfl) ?_
  refine lv_aload_n hx hb dL_law_1926 rfl (lv_at hl 6 rfl) ?_
  refine lv_iload hx hb dL_law_1927 (lv_at hl 1 rfl) ?_
  refine lv_iconst (v := nI 1) hx hb dL_law_1929 (by decide) ?_
  refine lv_iadd hx hb dL_law_1930 ?_
  rw [nI_add]
  refine q_sld hx hb hX hbl (Nat.not_le.mpr hbl) hS 1 rfl (by omega) dL_law_1931 ?_
  refine lv_aload_n hx hb dL_law_1932 rfl (lv_at hl 6 rfl) ?_
  refine lv_iload hx hb dL_law_1933 (lv_at hl 1 rfl) ?_
  refine lv_iconst (v := nI 2) hx hb dL_law_1935 (by decide) ?_
  refine lv_iadd hx hb dL_law_1936 ?_
  rw [nI_add]
  refine q_sld hx hb hX hbl (Nat.not_le.mpr hbl) hS 2 rfl (by omega) dL_law_1937 ?_
  refine lv_aload_n hx hb dL_law_1938 rfl (lv_at hl 6 rfl) ?_
  refine lv_iload hx hb dL_law_1939 (lv_at hl 1 rfl) ?_
  refine lv_iconst (v := nI 3) hx hb dL_law_1941 (by decide) ?_
  refine lv_iadd hx hb dL_law_1942 ?_
  rw [nI_add]
  refine q_sld hx hb hX hbl (Nat.not_le.mpr hbl) hS 3 rfl (by omega) dL_law_1943 ?_
  obtain ⟨z2, hq2⟩ : ∃ z : Nat, z = H1.size := ⟨_, rfl⟩
  have lm2 := hm.lt
  have lg := hg1.lt
  refine va_calli (va_runV (As := [.int (xs 1), .int (xs 2), .int (xs 3)]) (rest := []) ⟨hx, hb, hml, hown, hts⟩ (conX4_covers l D T z2 m0 (nI 0) (xs 1) (xs 2) (xs 3)) (cwV 3 hts gL_law_X4_covers rfl rfl rfl (by decide +kernel) ⟨Nat.le_of_ble_eq_true rfl, Nat.le_of_ble_eq_true rfl⟩) (preV hK hm.o rfl ⟨hq2.symm, hm⟩) rfl rfl hl.1 rfl (lv_room (Nat.le_of_ble_eq_true rfl)) dL_law_1944 ⟨Nat.le_of_ble_eq_true rfl, Nat.le_of_ble_eq_true rfl⟩) hS (fun q _ h9 => ma_N (had 0 (by omega)) (by have := hS.1; omega) h9) (fun q h9 => ma_N (had 0 (by omega)) (by have := hS.1; omega) h9) (fun r2 u2 t2 H2 locs2 ht2 hvm2 hr2 hB2 hz9 hk2 hS => ?_)
  try dsimp only at hB2
  rw [ht2] at hB2
  replace hg1 := hg1.kept (hk2 _ hg1.lt (fun h9 => ma_o (by omega) (by omega) h9))
  obtain ⟨vs, vv, hmt⟩ := hB2
  refine lv_istore (lv' := [(7, .int r2), (6, .int (tw_covers (xs 1) (xs 2) (xs 3))), (5, .int (nI 0)), (4, .ref o2), (3, .ref o), (2, .ref m0), (1, .ref (ad 0)), (0, .ref b)]) hx hb dL_law_1947 hl (by decide) rfl (fun ls hl => ?_)
  refine lv_aload_n hx hb dL_law_1949 rfl (lv_at hl 5 rfl) ?_
  refine vp_callSi (va_runV (As := []) (rest := []) ⟨hx, hb, hml, hown, hts⟩ (conX4_thrown l D T m0 (tw_covers (xs 1) (xs 2) (xs 3)) vs vv) (cwV 0 hts gL_law_X4_thrown rfl rfl rfl (by decide +kernel) ⟨Nat.le_of_ble_eq_true rfl, Nat.le_of_ble_eq_true rfl⟩) (preV hK hmt rfl hmt) rfl rfl hl.1 rfl (lv_room (Nat.le_of_ble_eq_true rfl)) dL_law_1950 ⟨Nat.le_of_ble_eq_true rfl, Nat.le_of_ble_eq_true rfl⟩).run (fun r3 hr3 => ?_)
  rw [hr3]
  refine lv_iload hx hb dL_law_1953 (lv_at hl 1 rfl) ?_
  refine lv_icmp_eq (tgt := 1960) hx hb dL_law_1955 (by decide) (fun c1955 => ?_) (fun c1955 => ?_)
  · skip
    refine lv_iload hx hb dL_law_1960 (lv_at hl 1 rfl) ?_
    refine lv_if_ne (tgt := 1977) hx hb dL_law_1962 (by decide) (fun c1962 => ?_) (fun c1962 => ?_)
    · skip
      refine lv_goto (tgt := 2402) hx hb dL_law_1977 (by decide) ?_
      refine W.widen (k := 1000) (n := 100000) (by decide) (by decide) ?_
      exact kk _ _ _ hS (lv_sub hl [2, 7] rfl)
    · skip
      refine lv_aload_n hx hb dL_law_1965 rfl (lv_at hl 4 rfl) ?_
      refine lv_iconst (v := nI 0) hx hb dL_law_1966 (by decide) ?_
      refine q_lald hx hb hK hg1 0 (rfl) (by omega) (by decide) dL_law_1967 ?_
      refine lv_iload hx hb dL_law_1968 (lv_at hl 0 rfl) ?_
      refine lv_i2l (v := r2.toInt64) hx hb dL_law_1970 rfl ?_
      refine W.lcmp hx hb dL_law_1971 ?_
      have hv9 : lg_cmp (g 0) r2.toInt64 = 0 := by rw [hg2 c1962, hr2 c1962]; exact lg_z _
      refine lv_if_eq (tgt := 1977) hx hb dL_law_1972 (by decide) (fun c1972 => ?_) (fun c1972 => ?_)
      · skip
        refine lv_goto (tgt := 2402) hx hb dL_law_1977 (by decide) ?_
        refine W.widen (k := 1000) (n := 100000) (by decide) (by decide) ?_
        exact kk _ _ _ hS (lv_sub hl [2, 7] rfl)
      · skip
        exact absurd hv9 c1972
  · skip
    exact absurd rfl c1955

set_option maxHeartbeats 4000000 in
set_option maxRecDepth 100000 in
theorem lc_apart {p : Program} {e : Env} {s : State} {m : MethodId} {below : List Frame} {meth : Method} {c : Code} {l : Launch} {b : Nat} {xs : Nat → Int32} {D : va_G} {T : Nat → ClassId} {ad : Nat → Nat} {m0 o o2 : Nat} {H : Heap} {locs : List Loc} {ls : Array Slot} {Q : State → Prop} (hlt : l.stackTraces = false) (hx : p.tables.exec = Jvm.exec) (hb : c.code = cL_law) (hr : meth.sig.returnType = ret) (hml : c.maxLocals = 9) (hown : s.vm.findClass RL = some m.cls) (hts : ∀ w ∈ wsL_law, w.before #[Value.ref b] s = true) (hK : KB D T s) (hKX : KX s.heap.size s) (hNc : va_Nc IAE IOB s) (hX : va_X b 6 xs s s.heap) (hbl : b < s.heap.size) (hS : va_S (fun q : Nat => s.heap.size ≤ q) s.heap H locs) (hw : PLW D T ad zz2 zz2 sr0 zr0 H) (hm : MF D T m0 (nI 0) H) (ho : pAt D H o (eL (T 6) 1 (fun _ => 0))) (ho2 : pAt D H o2 (eD (T 7) 1 (fun _ => 0))) (had : ∀ i : Nat, i < 37 → s.heap.size ≤ ad i ∧ ad i < m0) (hmo : m0 + 16 ≤ o) (hoo : o < o2) (hl : lv_has ls 9 [(5, .int (nI 0)), (4, .ref o2), (3, .ref o), (2, .ref m0), (1, .ref (ad 0)), (0, .ref b)]) (kk : ∀ (H1 : Heap) (locs1 : List Loc) (ls1 : Array Slot), va_S (fun q : Nat => s.heap.size ≤ q) s.heap H1 locs1 → lv_has ls1 9 [(5, .int (nI 0)), (0, .ref b)] → W p l e room_1 s m #[Value.ref b] below meth c H1 locs1 1000 100000 Q (F0 m 2402 ls1 [])) : W p l e room_1 s m #[Value.ref b] below meth c H locs 100 10000 Q (F0 m 1980 ls []) := by
  refine lv_aload_n hx hb dL_law_1980 rfl (lv_at hl 4 rfl) ?_
  refine lv_aload_n hx hb dL_law_1981 rfl (lv_at hl 5 rfl) ?_
  refine lv_iload hx hb dL_law_1982 (lv_at hl 0 rfl) ?_
  refine lv_iconst (v := nI 1) hx hb dL_law_1984 (by decide) ?_
  refine lv_iadd hx hb dL_law_1985 ?_
  rw [nI_add]
  refine q_sld hx hb hX hbl (Nat.not_le.mpr hbl) hS 1 rfl (by omega) dL_law_1986 ?_
  refine lv_aload_n hx hb dL_law_1987 rfl (lv_at hl 2 rfl) ?_
  obtain ⟨z1, hq1⟩ : ∃ z : Nat, z = H.size := ⟨_, rfl⟩
  have lm := hm.lt
  have lo := ho.lt
  refine va_calli (vx_runSW (As := [.ref (ad 0), .int (xs 1), .ref o]) (rest := []) ⟨hx, hb, hml, hown, hts⟩ (wr_apart l hlt D T s.heap.size z1 o ad _ (xs 1) (fun i hi => (had i hi).1) (by have := hS.1; omega) (fun i hi => by have := had i hi; omega)) (vx_cwSW 3 hts gL_law_L_apart rfl rfl rfl (by decide +kernel) ⟨Nat.le_of_ble_eq_true rfl, Nat.le_of_ble_eq_true rfl⟩) (preW hK hKX.1 (fun U hU hA => hKX.2.kept hA (fun a h1 h2 => by rw [hU]; exact hS.2.1 a h1 h2)) hNc ⟨hq1.symm, hw, ho⟩) rfl rfl hl.1 rfl (lv_room (Nat.le_of_ble_eq_true rfl)) dL_law_1988 ⟨Nat.le_of_ble_eq_true rfl, Nat.le_of_ble_eq_true rfl⟩) hS (fun q _ h9 => wa_N had (by have := had 0 (by omega); omega) (by have := hS.1; omega) h9) (fun q h9 => wa_N had (by have := had 0 (by omega); omega) (by have := hS.1; omega) h9) (fun r u t H1 locs1 ht hvm hr9 hB hz8 hk1 hS => ?_)
  try dsimp only at hB
  rw [ht] at hB
  replace hm := hm.kept hk1 (fun q h7 h8 => wa_m had (by omega) (by omega) h7 h8)
  obtain ⟨g, hg1, hg2⟩ := hB
  rw [hr9]
  refine lv_istore (lv' := [(6, .int (tw_apart (xs 1))), (5, .int (nI 0)), (4, .ref o2), (3, .ref o), (2, .ref m0), (1, .ref (ad 0)), (0, .ref b)]) hx hb dL_law_1991 hl (by decide) rfl (fun ls hl => ?_)
  refine lv_aload_n hx hb dL_law_1993 rfl (lv_at hl 4 rfl) ?_
  refine lv_aload_n hx hb dL_law_1994 rfl (lv_at hl 6 rfl) ?_
  refine lv_iload hx hb dL_law_1995 (lv_at hl 1 rfl) ?_
  refine lv_iconst (v := nI 1) hx hb dL_law_1997 (by decide) ?_
  refine lv_iadd hx hb dL_law_1998 ?_
  rw [nI_add]
  refine q_sld hx hb hX hbl (Nat.not_le.mpr hbl) hS 1 rfl (by omega) dL_law_1999 ?_
  obtain ⟨z2, hq2⟩ : ∃ z : Nat, z = H1.size := ⟨_, rfl⟩
  have lm2 := hm.lt
  have lg := hg1.lt
  refine va_calli (va_runV (As := [.int (xs 1)]) (rest := []) ⟨hx, hb, hml, hown, hts⟩ (conX4_apart l D T z2 m0 (nI 0) (xs 1)) (cwV 1 hts gL_law_X4_apart rfl rfl rfl (by decide +kernel) ⟨Nat.le_of_ble_eq_true rfl, Nat.le_of_ble_eq_true rfl⟩) (preV hK hm.o rfl ⟨hq2.symm, hm⟩) rfl rfl hl.1 rfl (lv_room (Nat.le_of_ble_eq_true rfl)) dL_law_2000 ⟨Nat.le_of_ble_eq_true rfl, Nat.le_of_ble_eq_true rfl⟩) hS (fun q _ h9 => ma_N (had 0 (by omega)) (by have := hS.1; omega) h9) (fun q h9 => ma_N (had 0 (by omega)) (by have := hS.1; omega) h9) (fun r2 u2 t2 H2 locs2 ht2 hvm2 hr2 hB2 hz9 hk2 hS => ?_)
  try dsimp only at hB2
  rw [ht2] at hB2
  replace hg1 := hg1.kept (hk2 _ hg1.lt (fun h9 => ma_o (by omega) (by omega) h9))
  obtain ⟨vs, vv, hmt⟩ := hB2
  refine lv_istore (lv' := [(7, .int r2), (6, .int (tw_apart (xs 1))), (5, .int (nI 0)), (4, .ref o2), (3, .ref o), (2, .ref m0), (1, .ref (ad 0)), (0, .ref b)]) hx hb dL_law_2003 hl (by decide) rfl (fun ls hl => ?_)
  refine lv_aload_n hx hb dL_law_2005 rfl (lv_at hl 5 rfl) ?_
  refine vp_callSi (va_runV (As := []) (rest := []) ⟨hx, hb, hml, hown, hts⟩ (conX4_thrown l D T m0 (tw_apart (xs 1)) vs vv) (cwV 0 hts gL_law_X4_thrown rfl rfl rfl (by decide +kernel) ⟨Nat.le_of_ble_eq_true rfl, Nat.le_of_ble_eq_true rfl⟩) (preV hK hmt rfl hmt) rfl rfl hl.1 rfl (lv_room (Nat.le_of_ble_eq_true rfl)) dL_law_2006 ⟨Nat.le_of_ble_eq_true rfl, Nat.le_of_ble_eq_true rfl⟩).run (fun r3 hr3 => ?_)
  rw [hr3]
  refine lv_iload hx hb dL_law_2009 (lv_at hl 1 rfl) ?_
  refine lv_icmp_eq (tgt := 2016) hx hb dL_law_2011 (by decide) (fun c2011 => ?_) (fun c2011 => ?_)
  · skip
    refine lv_iload hx hb dL_law_2016 (lv_at hl 1 rfl) ?_
    refine lv_if_ne (tgt := 2033) hx hb dL_law_2018 (by decide) (fun c2018 => ?_) (fun c2018 => ?_)
    · skip
      refine lv_goto (tgt := 2402) hx hb dL_law_2033 (by decide) ?_
      refine W.widen (k := 1000) (n := 100000) (by decide) (by decide) ?_
      exact kk _ _ _ hS (lv_sub hl [2, 7] rfl)
    · skip
      refine lv_aload_n hx hb dL_law_2021 rfl (lv_at hl 4 rfl) ?_
      refine lv_iconst (v := nI 0) hx hb dL_law_2022 (by decide) ?_
      refine q_lald hx hb hK hg1 0 (rfl) (by omega) (by decide) dL_law_2023 ?_
      refine lv_iload hx hb dL_law_2024 (lv_at hl 0 rfl) ?_
      refine lv_i2l (v := r2.toInt64) hx hb dL_law_2026 rfl ?_
      refine W.lcmp hx hb dL_law_2027 ?_
      have hv9 : lg_cmp (g 0) r2.toInt64 = 0 := by rw [hg2 c2018, hr2 c2018]; exact lg_z _
      refine lv_if_eq (tgt := 2033) hx hb dL_law_2028 (by decide) (fun c2028 => ?_) (fun c2028 => ?_)
      · skip
        refine lv_goto (tgt := 2402) hx hb dL_law_2033 (by decide) ?_
        refine W.widen (k := 1000) (n := 100000) (by decide) (by decide) ?_
        exact kk _ _ _ hS (lv_sub hl [2, 7] rfl)
      · skip
        exact absurd hv9 c2028
  · skip
    exact absurd rfl c2011
