set_option maxHeartbeats 4000000 in
set_option maxRecDepth 100000 in
theorem lc_far {p : Program} {e : Env} {s : State} {m : MethodId} {below : List Frame} {meth : Method} {c : Code} {l : Launch} {b : Nat} {xs : Nat → Int32} {D : va_G} {T : Nat → ClassId} {ad : Nat → Nat} {m0 o o2 : Nat} {H : Heap} {locs : List Loc} {ls : Array Slot} {Q : State → Prop} (hlt : l.stackTraces = false) (hx : p.tables.exec = Jvm.exec) (hb : c.code = cL_law) (hr : meth.sig.returnType = ret) (hml : c.maxLocals = 9) (hown : s.vm.findClass RL = some m.cls) (hts : ∀ w ∈ wsL_law, w.before #[Value.ref b] s = true) (hK : KB D T s) (hKX : KX s.heap.size s) (hNc : va_Nc IAE IOB s) (hX : va_X b 6 xs s s.heap) (hbl : b < s.heap.size) (hS : va_S (fun q : Nat => s.heap.size ≤ q) s.heap H locs) (hw : PLW D T ad zz2 zz2 sr0 zr0 H) (hm : MF D T m0 (nI 0) H) (ho : pAt D H o (eL (T 6) 1 (fun _ => 0))) (ho2 : pAt D H o2 (eD (T 7) 1 (fun _ => 0))) (had : ∀ i : Nat, i < 37 → s.heap.size ≤ ad i ∧ ad i < m0) (hmo : m0 + 16 ≤ o) (hoo : o < o2) (hl : lv_has ls 9 [(5, .int (nI 0)), (4, .ref o2), (3, .ref o), (2, .ref m0), (1, .ref (ad 0)), (0, .ref b)]) (kk : ∀ (H1 : Heap) (locs1 : List Loc) (ls1 : Array Slot), va_S (fun q : Nat => s.heap.size ≤ q) s.heap H1 locs1 → lv_has ls1 9 [(5, .int (nI 0)), (0, .ref b)] → W p l e room_1 s m #[Value.ref b] below meth c H1 locs1 1000 100000 Q (F0 m 2402 ls1 [])) : W p l e room_1 s m #[Value.ref b] below meth c H locs 100 10000 Q (F0 m 819 ls []) := by
  refine lv_aload_n hx hb dL_law_819 rfl (lv_at hl 4 rfl) ?_
  refine lv_aload_n hx hb dL_law_820 rfl (lv_at hl 5 rfl) ?_
  refine lv_iload hx hb dL_law_821 (lv_at hl 0 rfl) ?_
  refine lv_iconst (v := nI 1) hx hb dL_law_823 (by decide) ?_
  refine lv_iadd hx hb dL_law_824 ?_
  rw [nI_add]
  refine q_sld hx hb hX hbl (Nat.not_le.mpr hbl) hS 1 rfl (by omega) dL_law_825 ?_
  refine lv_aload_n hx hb dL_law_826 rfl (lv_at hl 5 rfl) ?_
  refine lv_iload hx hb dL_law_827 (lv_at hl 0 rfl) ?_
  refine lv_iconst (v := nI 2) hx hb dL_law_829 (by decide) ?_
  refine lv_iadd hx hb dL_law_830 ?_
  rw [nI_add]
  refine q_sld hx hb hX hbl (Nat.not_le.mpr hbl) hS 2 rfl (by omega) dL_law_831 ?_
  refine lv_aload_n hx hb dL_law_832 rfl (lv_at hl 2 rfl) ?_
  obtain ⟨z1, hq1⟩ : ∃ z : Nat, z = H.size := ⟨_, rfl⟩
  have lm := hm.lt
  have lo := ho.lt
  refine va_calli (vx_runSW (As := [.ref (ad 0), .int (xs 1), .int (xs 2), .ref o]) (rest := []) ⟨hx, hb, hml, hown, hts⟩ (wr_far l hlt D T s.heap.size z1 o ad _ (xs 1) (xs 2) (fun i hi => (had i hi).1) (by have := hS.1; omega) (fun i hi => by have := had i hi; omega)) (vx_cwSW 4 hts gL_law_L_far rfl rfl rfl (by decide +kernel) ⟨Nat.le_of_ble_eq_true rfl, Nat.le_of_ble_eq_true rfl⟩) (preW hK hKX.1 (fun U hU hA => hKX.2.kept hA (fun a h1 h2 => by rw [hU]; exact hS.2.1 a h1 h2)) hNc ⟨hq1.symm, hw, ho⟩) rfl rfl hl.1 rfl (lv_room (Nat.le_of_ble_eq_true rfl)) dL_law_833 ⟨Nat.le_of_ble_eq_true rfl, Nat.le_of_ble_eq_true rfl⟩) hS (fun q _ h9 => wa_N had (by have := had 0 (by omega); omega) (by have := hS.1; omega) h9) (fun q h9 => wa_N had (by have := had 0 (by omega); omega) (by have := hS.1; omega) h9) (fun r u t H1 locs1 ht hvm hr9 hB hz8 hk1 hS => ?_)
  try dsimp only at hB
  rw [ht] at hB
  replace hm := hm.kept hk1 (fun q h7 h8 => wa_m had (by omega) (by omega) h7 h8)
  obtain ⟨g, hg1, hg2⟩ := hB
  rw [hr9]
  refine lv_istore (lv' := [(6, .int (tw_far (xs 1) (xs 2))), (5, .int (nI 0)), (4, .ref o2), (3, .ref o), (2, .ref m0), (1, .ref (ad 0)), (0, .ref b)]) hx hb dL_law_836 hl (by decide) rfl (fun ls hl => ?_)
  refine lv_aload_n hx hb dL_law_838 rfl (lv_at hl 4 rfl) ?_
  refine lv_aload_n hx hb dL_law_839 rfl (lv_at hl 6 rfl) ?_
  refine lv_iload hx hb dL_law_840 (lv_at hl 1 rfl) ?_
  refine lv_iconst (v := nI 1) hx hb dL_law_842 (by decide) ?_
  refine lv_iadd hx hb dL_law_843 ?_
  rw [nI_add]
  refine q_sld hx hb hX hbl (Nat.not_le.mpr hbl) hS 1 rfl (by omega) dL_law_844 ?_
  refine lv_aload_n hx hb dL_law_845 rfl (lv_at hl 6 rfl) ?_
  refine lv_iload hx hb dL_law_846 (lv_at hl 1 rfl) ?_
  refine lv_iconst (v := nI 2) hx hb dL_law_848 (by decide) ?_
  refine lv_iadd hx hb dL_law_849 ?_
  rw [nI_add]
  refine q_sld hx hb hX hbl (Nat.not_le.mpr hbl) hS 2 rfl (by omega) dL_law_850 ?_
  obtain ⟨z2, hq2⟩ : ∃ z : Nat, z = H1.size := ⟨_, rfl⟩
  have lm2 := hm.lt
  have lg := hg1.lt
  refine va_calli (va_runV (As := [.int (xs 1), .int (xs 2)]) (rest := []) ⟨hx, hb, hml, hown, hts⟩ (conX4_far l D T z2 m0 (nI 0) (xs 1) (xs 2)) (cwV 2 hts gL_law_X4_far rfl rfl rfl (by decide +kernel) ⟨Nat.le_of_ble_eq_true rfl, Nat.le_of_ble_eq_true rfl⟩) (preV hK hm.o rfl ⟨hq2.symm, hm⟩) rfl rfl hl.1 rfl (lv_room (Nat.le_of_ble_eq_true rfl)) dL_law_851 ⟨Nat.le_of_ble_eq_true rfl, Nat.le_of_ble_eq_true rfl⟩) hS (fun q _ h9 => ma_N (had 0 (by omega)) (by have := hS.1; omega) h9) (fun q h9 => ma_N (had 0 (by omega)) (by have := hS.1; omega) h9) (fun r2 u2 t2 H2 locs2 ht2 hvm2 hr2 hB2 hz9 hk2 hS => ?_)
  try dsimp only at hB2
  rw [ht2] at hB2
  replace hg1 := hg1.kept (hk2 _ hg1.lt (fun h9 => ma_o (by omega) (by omega) h9))
  obtain ⟨vs, vv, hmt⟩ := hB2
  refine lv_istore (lv' := [(7, .int r2), (6, .int (tw_far (xs 1) (xs 2))), (5, .int (nI 0)), (4, .ref o2), (3, .ref o), (2, .ref m0), (1, .ref (ad 0)), (0, .ref b)]) hx hb dL_law_854 hl (by decide) rfl (fun ls hl => ?_)
  refine lv_aload_n hx hb dL_law_856 rfl (lv_at hl 5 rfl) ?_
  refine vp_callSi (va_runV (As := []) (rest := []) ⟨hx, hb, hml, hown, hts⟩ (conX4_thrown l D T m0 (tw_far (xs 1) (xs 2)) vs vv) (cwV 0 hts gL_law_X4_thrown rfl rfl rfl (by decide +kernel) ⟨Nat.le_of_ble_eq_true rfl, Nat.le_of_ble_eq_true rfl⟩) (preV hK hmt rfl hmt) rfl rfl hl.1 rfl (lv_room (Nat.le_of_ble_eq_true rfl)) dL_law_857 ⟨Nat.le_of_ble_eq_true rfl, Nat.le_of_ble_eq_true rfl⟩).run (fun r3 hr3 => ?_)
  rw [hr3]
  refine lv_iload hx hb dL_law_860 (lv_at hl 1 rfl) ?_
  refine lv_icmp_eq (tgt := 867) hx hb dL_law_862 (by decide) (fun c862 => ?_) (fun c862 => ?_)
  · skip
    refine lv_iload hx hb dL_law_867 (lv_at hl 1 rfl) ?_
    refine lv_if_ne (tgt := 884) hx hb dL_law_869 (by decide) (fun c869 => ?_) (fun c869 => ?_)
    · skip
      refine lv_goto (tgt := 2402) hx hb dL_law_884 (by decide) ?_
      refine W.widen (k := 1000) (n := 100000) (by decide) (by decide) ?_
      exact kk _ _ _ hS (lv_sub hl [2, 7] rfl)
    · skip
      refine lv_aload_n hx hb dL_law_872 rfl (lv_at hl 4 rfl) ?_
      refine lv_iconst (v := nI 0) hx hb dL_law_873 (by decide) ?_
      refine q_lald hx hb hK hg1 0 (rfl) (by omega) (by decide) dL_law_874 ?_
      refine lv_iload hx hb dL_law_875 (lv_at hl 0 rfl) ?_
      refine lv_i2l (v := r2.toInt64) hx hb dL_law_877 rfl ?_
      refine W.lcmp hx hb dL_law_878 ?_
      have hv9 : lg_cmp (g 0) r2.toInt64 = 0 := by rw [hg2 c869, hr2 c869]; exact lg_z _
      refine lv_if_eq (tgt := 884) hx hb dL_law_879 (by decide) (fun c879 => ?_) (fun c879 => ?_)
      · skip
        refine lv_goto (tgt := 2402) hx hb dL_law_884 (by decide) ?_
        refine W.widen (k := 1000) (n := 100000) (by decide) (by decide) ?_
        exact kk _ _ _ hS (lv_sub hl [2, 7] rfl)
      · skip
        exact absurd hv9 c879
  · skip
    exact absurd rfl c862

set_option maxHeartbeats 4000000 in
set_option maxRecDepth 100000 in
theorem lc_beside {p : Program} {e : Env} {s : State} {m : MethodId} {below : List Frame} {meth : Method} {c : Code} {l : Launch} {b : Nat} {xs : Nat → Int32} {D : va_G} {T : Nat → ClassId} {ad : Nat → Nat} {m0 o o2 : Nat} {H : Heap} {locs : List Loc} {ls : Array Slot} {Q : State → Prop} (hlt : l.stackTraces = false) (hx : p.tables.exec = Jvm.exec) (hb : c.code = cL_law) (hr : meth.sig.returnType = ret) (hml : c.maxLocals = 9) (hown : s.vm.findClass RL = some m.cls) (hts : ∀ w ∈ wsL_law, w.before #[Value.ref b] s = true) (hK : KB D T s) (hKX : KX s.heap.size s) (hNc : va_Nc IAE IOB s) (hX : va_X b 6 xs s s.heap) (hbl : b < s.heap.size) (hS : va_S (fun q : Nat => s.heap.size ≤ q) s.heap H locs) (hw : PLW D T ad zz2 zz2 sr0 zr0 H) (hm : MF D T m0 (nI 0) H) (ho : pAt D H o (eL (T 6) 1 (fun _ => 0))) (ho2 : pAt D H o2 (eD (T 7) 1 (fun _ => 0))) (had : ∀ i : Nat, i < 37 → s.heap.size ≤ ad i ∧ ad i < m0) (hmo : m0 + 16 ≤ o) (hoo : o < o2) (hl : lv_has ls 9 [(5, .int (nI 0)), (4, .ref o2), (3, .ref o), (2, .ref m0), (1, .ref (ad 0)), (0, .ref b)]) (kk : ∀ (H1 : Heap) (locs1 : List Loc) (ls1 : Array Slot), va_S (fun q : Nat => s.heap.size ≤ q) s.heap H1 locs1 → lv_has ls1 9 [(5, .int (nI 0)), (0, .ref b)] → W p l e room_1 s m #[Value.ref b] below meth c H1 locs1 1000 100000 Q (F0 m 2402 ls1 [])) : W p l e room_1 s m #[Value.ref b] below meth c H locs 100 10000 Q (F0 m 887 ls []) := by
  refine lv_aload_n hx hb dL_law_887 rfl (lv_at hl 4 rfl) ?_
  refine lv_aload_n hx hb dL_law_888 rfl (lv_at hl 5 rfl) ?_
  refine lv_iload hx hb dL_law_889 (lv_at hl 0 rfl) ?_
  refine lv_iconst (v := nI 1) hx hb dL_law_891 (by decide) ?_
  refine lv_iadd hx hb dL_law_892 ?_
  rw [nI_add]
  refine q_sld hx hb hX hbl (Nat.not_le.mpr hbl) hS 1 rfl (by omega) dL_law_893 ?_
  refine lv_aload_n hx hb dL_law_894 rfl (lv_at hl 5 rfl) ?_
  refine lv_iload hx hb dL_law_895 (lv_at hl 0 rfl) ?_
  refine lv_iconst (v := nI 2) hx hb dL_law_897 (by decide) ?_
  refine lv_iadd hx hb dL_law_898 ?_
  rw [nI_add]
  refine q_sld hx hb hX hbl (Nat.not_le.mpr hbl) hS 2 rfl (by omega) dL_law_899 ?_
  refine lv_aload_n hx hb dL_law_900 rfl (lv_at hl 2 rfl) ?_
  obtain ⟨z1, hq1⟩ : ∃ z : Nat, z = H.size := ⟨_, rfl⟩
  have lm := hm.lt
  have lo := ho.lt
  refine va_calli (vx_runSW (As := [.ref (ad 0), .int (xs 1), .int (xs 2), .ref o]) (rest := []) ⟨hx, hb, hml, hown, hts⟩ (wr_beside l hlt D T s.heap.size z1 o ad _ (xs 1) (xs 2) (fun i hi => (had i hi).1) (by have := hS.1; omega) (fun i hi => by have := had i hi; omega)) (vx_cwSW 4 hts gL_law_L_beside rfl rfl rfl (by decide +kernel) ⟨Nat.le_of_ble_eq_true rfl, Nat.le_of_ble_eq_true rfl⟩) (preW hK hKX.1 (fun U hU hA => hKX.2.kept hA (fun a h1 h2 => by rw [hU]; exact hS.2.1 a h1 h2)) hNc ⟨hq1.symm, hw, ho⟩) rfl rfl hl.1 rfl (lv_room (Nat.le_of_ble_eq_true rfl)) dL_law_901 ⟨Nat.le_of_ble_eq_true rfl, Nat.le_of_ble_eq_true rfl⟩) hS (fun q _ h9 => wa_N had (by have := had 0 (by omega); omega) (by have := hS.1; omega) h9) (fun q h9 => wa_N had (by have := had 0 (by omega); omega) (by have := hS.1; omega) h9) (fun r u t H1 locs1 ht hvm hr9 hB hz8 hk1 hS => ?_)
  try dsimp only at hB
  rw [ht] at hB
  replace hm := hm.kept hk1 (fun q h7 h8 => wa_m had (by omega) (by omega) h7 h8)
  obtain ⟨g, hg1, hg2⟩ := hB
  rw [hr9]
  refine lv_istore (lv' := [(6, .int (tw_beside (xs 1) (xs 2))), (5, .int (nI 0)), (4, .ref o2), (3, .ref o), (2, .ref m0), (1, .ref (ad 0)), (0, .ref b)]) hx hb dL_law_904 hl (by decide) rfl (fun ls hl => ?_)
  refine lv_aload_n hx hb dL_law_906 rfl (lv_at hl 4 rfl) ?_
  refine lv_aload_n hx hb dL_law_907 rfl (lv_at hl 6 rfl) ?_
  refine lv_iload hx hb dL_law_908 (lv_at hl 1 rfl) ?_
  refine lv_iconst (v := nI 1) hx hb dL_law_910 (by decide) ?_
  refine lv_iadd hx hb dL_law_911 ?_
  rw [nI_add]
  refine q_sld hx hb hX hbl (Nat.not_le.mpr hbl) hS 1 rfl (by omega) dL_law_912 ?_
  refine lv_aload_n hx hb dL_law_913 rfl (lv_at hl 6 rfl) ?_
  refine lv_iload hx hb dL_law_914 (lv_at hl 1 rfl) ?_
  refine lv_iconst (v := nI 2) hx hb dL_law_916 (by decide) ?_
  refine lv_iadd hx hb dL_law_917 ?_
  rw [nI_add]
  refine q_sld hx hb hX hbl (Nat.not_le.mpr hbl) hS 2 rfl (by omega) dL_law_918 ?_
  obtain ⟨z2, hq2⟩ : ∃ z : Nat, z = H1.size := ⟨_, rfl⟩
  have lm2 := hm.lt
  have lg := hg1.lt
  refine va_calli (va_runV (As := [.int (xs 1), .int (xs 2)]) (rest := []) ⟨hx, hb, hml, hown, hts⟩ (conX4_beside l D T z2 m0 (nI 0) (xs 1) (xs 2)) (cwV 2 hts gL_law_X4_beside rfl rfl rfl (by decide +kernel) ⟨Nat.le_of_ble_eq_true rfl, Nat.le_of_ble_eq_true rfl⟩) (preV hK hm.o rfl ⟨hq2.symm, hm⟩) rfl rfl hl.1 rfl (lv_room (Nat.le_of_ble_eq_true rfl)) dL_law_919 ⟨Nat.le_of_ble_eq_true rfl, Nat.le_of_ble_eq_true rfl⟩) hS (fun q _ h9 => ma_N (had 0 (by omega)) (by have := hS.1; omega) h9) (fun q h9 => ma_N (had 0 (by omega)) (by have := hS.1; omega) h9) (fun r2 u2 t2 H2 locs2 ht2 hvm2 hr2 hB2 hz9 hk2 hS => ?_)
  try dsimp only at hB2
  rw [ht2] at hB2
  replace hg1 := hg1.kept (hk2 _ hg1.lt (fun h9 => ma_o (by omega) (by omega) h9))
  obtain ⟨vs, vv, hmt⟩ := hB2
  refine lv_istore (lv' := [(7, .int r2), (6, .int (tw_beside (xs 1) (xs 2))), (5, .int (nI 0)), (4, .ref o2), (3, .ref o), (2, .ref m0), (1, .ref (ad 0)), (0, .ref b)]) hx hb dL_law_922 hl (by decide) rfl (fun ls hl => ?_)
  refine lv_aload_n hx hb dL_law_924 rfl (lv_at hl 5 rfl) ?_
  refine vp_callSi (va_runV (As := []) (rest := []) ⟨hx, hb, hml, hown, hts⟩ (conX4_thrown l D T m0 (tw_beside (xs 1) (xs 2)) vs vv) (cwV 0 hts gL_law_X4_thrown rfl rfl rfl (by decide +kernel) ⟨Nat.le_of_ble_eq_true rfl, Nat.le_of_ble_eq_true rfl⟩) (preV hK hmt rfl hmt) rfl rfl hl.1 rfl (lv_room (Nat.le_of_ble_eq_true rfl)) dL_law_925 ⟨Nat.le_of_ble_eq_true rfl, Nat.le_of_ble_eq_true rfl⟩).run (fun r3 hr3 => ?_)
  rw [hr3]
  refine lv_iload hx hb dL_law_928 (lv_at hl 1 rfl) ?_
  refine lv_icmp_eq (tgt := 935) hx hb dL_law_930 (by decide) (fun c930 => ?_) (fun c930 => ?_)
  · skip
    refine lv_iload hx hb dL_law_935 (lv_at hl 1 rfl) ?_
    refine lv_if_ne (tgt := 952) hx hb dL_law_937 (by decide) (fun c937 => ?_) (fun c937 => ?_)
    · skip
      refine lv_goto (tgt := 2402) hx hb dL_law_952 (by decide) ?_
      refine W.widen (k := 1000) (n := 100000) (by decide) (by decide) ?_
      exact kk _ _ _ hS (lv_sub hl [2, 7] rfl)
    · skip
      refine lv_aload_n hx hb dL_law_940 rfl (lv_at hl 4 rfl) ?_
      refine lv_iconst (v := nI 0) hx hb dL_law_941 (by decide) ?_
      refine q_lald hx hb hK hg1 0 (rfl) (by omega) (by decide) dL_law_942 ?_
      refine lv_iload hx hb dL_law_943 (lv_at hl 0 rfl) ?_
      refine lv_i2l (v := r2.toInt64) hx hb dL_law_945 rfl ?_
      refine W.lcmp hx hb dL_law_946 ?_
      have hv9 : lg_cmp (g 0) r2.toInt64 = 0 := by rw [hg2 c937, hr2 c937]; exact lg_z _
      refine lv_if_eq (tgt := 952) hx hb dL_law_947 (by decide) (fun c947 => ?_) (fun c947 => ?_)
      · skip
        refine lv_goto (tgt := 2402) hx hb dL_law_952 (by decide) ?_
        refine W.widen (k := 1000) (n := 100000) (by decide) (by decide) ?_
        exact kk _ _ _ hS (lv_sub hl [2, 7] rfl)
      · skip
        exact absurd hv9 c947
  · skip
    exact absurd rfl c930

set_option maxHeartbeats 4000000 in
set_option maxRecDepth 100000 in
theorem lc_raise {p : Program} {e : Env} {s : State} {m : MethodId} {below : List Frame} {meth : Method} {c : Code} {l : Launch} {b : Nat} {xs : Nat → Int32} {D : va_G} {T : Nat → ClassId} {ad : Nat → Nat} {m0 o o2 : Nat} {H : Heap} {locs : List Loc} {ls : Array Slot} {Q : State → Prop} (hlt : l.stackTraces = false) (hx : p.tables.exec = Jvm.exec) (hb : c.code = cL_law) (hr : meth.sig.returnType = ret) (hml : c.maxLocals = 9) (hown : s.vm.findClass RL = some m.cls) (hts : ∀ w ∈ wsL_law, w.before #[Value.ref b] s = true) (hK : KB D T s) (hKX : KX s.heap.size s) (hNc : va_Nc IAE IOB s) (hX : va_X b 6 xs s s.heap) (hbl : b < s.heap.size) (hS : va_S (fun q : Nat => s.heap.size ≤ q) s.heap H locs) (hw : PLW D T ad zz2 zz2 sr0 zr0 H) (hm : MF D T m0 (nI 0) H) (ho : pAt D H o (eL (T 6) 1 (fun _ => 0))) (ho2 : pAt D H o2 (eD (T 7) 1 (fun _ => 0))) (had : ∀ i : Nat, i < 37 → s.heap.size ≤ ad i ∧ ad i < m0) (hmo : m0 + 16 ≤ o) (hoo : o < o2) (hl : lv_has ls 9 [(5, .int (nI 0)), (4, .ref o2), (3, .ref o), (2, .ref m0), (1, .ref (ad 0)), (0, .ref b)]) (kk : ∀ (H1 : Heap) (locs1 : List Loc) (ls1 : Array Slot), va_S (fun q : Nat => s.heap.size ≤ q) s.heap H1 locs1 → lv_has ls1 9 [(5, .int (nI 0)), (0, .ref b)] → W p l e room_1 s m #[Value.ref b] below meth c H1 locs1 1000 100000 Q (F0 m 2402 ls1 [])) : W p l e room_1 s m #[Value.ref b] below meth c H locs 100 10000 Q (F0 m 955 ls []) := by
  refine lv_aload_n hx hb dL_law_955 rfl (lv_at hl 4 rfl) ?_
  refine lv_aload_n hx hb dL_law_956 rfl (lv_at hl 5 rfl) ?_
  refine lv_iload hx hb dL_law_957 (lv_at hl 0 rfl) ?_
  refine lv_iconst (v := nI 1) hx hb dL_law_959 (by decide) ?_
  refine lv_iadd hx hb dL_law_960 ?_
  rw [nI_add]
  refine q_sld hx hb hX hbl (Nat.not_le.mpr hbl) hS 1 rfl (by omega) dL_law_961 ?_
  refine lv_aload_n hx hb dL_law_962 rfl (lv_at hl 5 rfl) ?_
  refine lv_iload hx hb dL_law_963 (lv_at hl 0 rfl) ?_
  refine lv_iconst (v := nI 2) hx hb dL_law_965 (by decide) ?_
  refine lv_iadd hx hb dL_law_966 ?_
  rw [nI_add]
  refine q_sld hx hb hX hbl (Nat.not_le.mpr hbl) hS 2 rfl (by omega) dL_law_967 ?_
  refine lv_aload_n hx hb dL_law_968 rfl (lv_at hl 5 rfl) ?_
  refine lv_iload hx hb dL_law_969 (lv_at hl 0 rfl) ?_
  refine lv_iconst (v := nI 3) hx hb dL_law_971 (by decide) ?_
  refine lv_iadd hx hb dL_law_972 ?_
  rw [nI_add]
  refine q_sld hx hb hX hbl (Nat.not_le.mpr hbl) hS 3 rfl (by omega) dL_law_973 ?_
  refine lv_aload_n hx hb dL_law_974 rfl (lv_at hl 5 rfl) ?_
  refine lv_iload hx hb dL_law_975 (lv_at hl 0 rfl) ?_
  refine lv_iconst (v := nI 4) hx hb dL_law_977 (by decide) ?_
  refine lv_iadd hx hb dL_law_978 ?_
  rw [nI_add]
  refine q_sld hx hb hX hbl (Nat.not_le.mpr hbl) hS 4 rfl (by omega) dL_law_979 ?_
  refine lv_aload_n hx hb dL_law_980 rfl (lv_at hl 5 rfl) ?_
  refine lv_iload hx hb dL_law_981 (lv_at hl 0 rfl) ?_
  refine lv_iconst (v := nI 5) hx hb dL_law_983 (by decide) ?_
  refine lv_iadd hx hb dL_law_984 ?_
  rw [nI_add]
  refine q_sld hx hb hX hbl (Nat.not_le.mpr hbl) hS 5 rfl (by omega) dL_law_985 ?_
  refine lv_aload_n hx hb dL_law_986 rfl (lv_at hl 2 rfl) ?_
  obtain ⟨z1, hq1⟩ : ∃ z : Nat, z = H.size := ⟨_, rfl⟩
  have lm := hm.lt
  have lo := ho.lt
  refine va_calli (vx_runSW (As := [.ref (ad 0), .int (xs 1), .int (xs 2), .int (xs 3), .int (xs 4), .int (xs 5), .ref o]) (rest := []) ⟨hx, hb, hml, hown, hts⟩ (wr_raise l hlt D T s.heap.size z1 o ad _ (xs 1) (xs 2) (xs 3) (xs 4) (xs 5) (fun i hi => (had i hi).1) (by have := hS.1; omega) (fun i hi => by have := had i hi; omega)) (vx_cwSW 7 hts gL_law_L_raise rfl rfl rfl (by decide +kernel) ⟨Nat.le_of_ble_eq_true rfl, Nat.le_of_ble_eq_true rfl⟩) (preW hK hKX.1 (fun U hU hA => hKX.2.kept hA (fun a h1 h2 => by rw [hU]; exact hS.2.1 a h1 h2)) hNc ⟨hq1.symm, hw, ho⟩) rfl rfl hl.1 rfl (lv_room (Nat.le_of_ble_eq_true rfl)) dL_law_987 ⟨Nat.le_of_ble_eq_true rfl, Nat.le_of_ble_eq_true rfl⟩) hS (fun q _ h9 => wa_N had (by have := had 0 (by omega); omega) (by have := hS.1; omega) h9) (fun q h9 => wa_N had (by have := had 0 (by omega); omega) (by have := hS.1; omega) h9) (fun r u t H1 locs1 ht hvm hr9 hB hz8 hk1 hS => ?_)
  try dsimp only at hB
  rw [ht] at hB
  replace hm := hm.kept hk1 (fun q h7 h8 => wa_m had (by omega) (by omega) h7 h8)
  obtain ⟨g, hg1, hg2⟩ := hB
  rw [hr9]
  refine lv_istore (lv' := [(6, .int (tw_raise (xs 1) (xs 2) (xs 3) (xs 4) (xs 5))), (5, .int (nI 0)), (4, .ref o2), (3, .ref o), (2, .ref m0), (1, .ref (ad 0)), (0, .ref b)]) hx hb dL_law_990 hl (by decide) rfl (fun ls hl => ?_)
  refine lv_aload_n hx hb dL_law_992 rfl (lv_at hl 4 rfl) ?_
  refine lv_aload_n hx hb dL_law_993 rfl (lv_at hl 6 rfl) ?_
  refine lv_iload hx hb dL_law_994 (lv_at hl 1 rfl) ?_
  refine lv_iconst (v := nI 1) hx hb dL_law_996 (by decide) ?_
  refine lv_iadd hx hb dL_law_997 ?_
  rw [nI_add]
  refine q_sld hx hb hX hbl (Nat.not_le.mpr hbl) hS 1 rfl (by omega) dL_law_998 ?_
  refine lv_aload_n hx hb dL_law_999 rfl (lv_at hl 6 rfl) ?_
  refine lv_iload hx hb dL_law_1000 (lv_at hl 1 rfl) ?_
  refine lv_iconst (v := nI 2) hx hb dL_law_1002 (by decide) ?_
  refine lv_iadd hx hb dL_law_1003 ?_
  rw [nI_add]
  refine q_sld hx hb hX hbl (Nat.not_le.mpr hbl) hS 2 rfl (by omega) dL_law_1004 ?_
  refine lv_aload_n hx hb dL_law_1005 rfl (lv_at hl 6 rfl) ?_
  refine lv_iload hx hb dL_law_1006 (lv_at hl 1 rfl) ?_
  refine lv_iconst (v := nI 3) hx hb dL_law_1008 (by decide) ?_
  refine lv_iadd hx hb dL_law_1009 ?_
  rw [nI_add]
  refine q_sld hx hb hX hbl (Nat.not_le.mpr hbl) hS 3 rfl (by omega) dL_law_1010 ?_
  refine lv_aload_n hx hb dL_law_1011 rfl (lv_at hl 6 rfl) ?_
  refine lv_iload hx hb dL_law_1012 (lv_at hl 1 rfl) ?_
  refine lv_iconst (v := nI 4) hx hb dL_law_1014 (by decide) ?_
  refine lv_iadd hx hb dL_law_1015 ?_
  rw [nI_add]
  refine q_sld hx hb hX hbl (Nat.not_le.mpr hbl) hS 4 rfl (by omega) dL_law_1016 ?_
  refine lv_aload_n hx hb dL_law_1017 rfl (lv_at hl 6 rfl) ?_
  refine lv_iload hx hb dL_law_1018 (lv_at hl 1 rfl) ?_
  refine lv_iconst (v := nI 5) hx hb dL_law_1020 (by decide) ?_
  refine lv_iadd hx hb dL_law_1021 ?_
  rw [nI_add]
  refine q_sld hx hb hX hbl (Nat.not_le.mpr hbl) hS 5 rfl (by omega) dL_law_1022 ?_
  obtain ⟨z2, hq2⟩ : ∃ z : Nat, z = H1.size := ⟨_, rfl⟩
  have lm2 := hm.lt
  have lg := hg1.lt
  refine va_calli (va_runV (As := [.int (xs 1), .int (xs 2), .int (xs 3), .int (xs 4), .int (xs 5)]) (rest := []) ⟨hx, hb, hml, hown, hts⟩ (conX4_raise l D T z2 m0 (nI 0) (xs 1) (xs 2) (xs 3) (xs 4) (xs 5)) (cwV 5 hts gL_law_X4_raise rfl rfl rfl (by decide +kernel) ⟨Nat.le_of_ble_eq_true rfl, Nat.le_of_ble_eq_true rfl⟩) (preV hK hm.o rfl ⟨hq2.symm, hm⟩) rfl rfl hl.1 rfl (lv_room (Nat.le_of_ble_eq_true rfl)) dL_law_1023 ⟨Nat.le_of_ble_eq_true rfl, Nat.le_of_ble_eq_true rfl⟩) hS (fun q _ h9 => ma_N (had 0 (by omega)) (by have := hS.1; omega) h9) (fun q h9 => ma_N (had 0 (by omega)) (by have := hS.1; omega) h9) (fun r2 u2 t2 H2 locs2 ht2 hvm2 hr2 hB2 hz9 hk2 hS => ?_)
  try dsimp only at hB2
  rw [ht2] at hB2
  replace hg1 := hg1.kept (hk2 _ hg1.lt (fun h9 => ma_o (by omega) (by omega) h9))
  obtain ⟨vs, vv, hmt⟩ := hB2
  refine lv_istore (lv' := [(7, .int r2), (6, .int (tw_raise (xs 1) (xs 2) (xs 3) (xs 4) (xs 5))), (5, .int (nI 0)), (4, .ref o2), (3, .ref o), (2, .ref m0), (1, .ref (ad 0)), (0, .ref b)]) hx hb dL_law_1026 hl (by decide) rfl (fun ls hl => ?_)
  refine lv_aload_n hx hb dL_law_1028 rfl (lv_at hl 5 rfl) ?_
  refine vp_callSi (va_runV (As := []) (rest := []) ⟨hx, hb, hml, hown, hts⟩ (conX4_thrown l D T m0 (tw_raise (xs 1) (xs 2) (xs 3) (xs 4) (xs 5)) vs vv) (cwV 0 hts gL_law_X4_thrown rfl rfl rfl (by decide +kernel) ⟨Nat.le_of_ble_eq_true rfl, Nat.le_of_ble_eq_true rfl⟩) (preV hK hmt rfl hmt) rfl rfl hl.1 rfl (lv_room (Nat.le_of_ble_eq_true rfl)) dL_law_1029 ⟨Nat.le_of_ble_eq_true rfl, Nat.le_of_ble_eq_true rfl⟩).run (fun r3 hr3 => ?_)
  rw [hr3]
  refine lv_iload hx hb dL_law_1032 (lv_at hl 1 rfl) ?_
  refine lv_icmp_eq (tgt := 1039) hx hb dL_law_1034 (by decide) (fun c1034 => ?_) (fun c1034 => ?_)
  · skip
    refine lv_iload hx hb dL_law_1039 (lv_at hl 1 rfl) ?_
    refine lv_if_ne (tgt := 1056) hx hb dL_law_1041 (by decide) (fun c1041 => ?_) (fun c1041 => ?_)
    · skip
      refine lv_goto (tgt := 2402) hx hb dL_law_1056 (by decide) ?_
      refine W.widen (k := 1000) (n := 100000) (by decide) (by decide) ?_
      exact kk _ _ _ hS (lv_sub hl [2, 7] rfl)
    · skip
      refine lv_aload_n hx hb dL_law_1044 rfl (lv_at hl 4 rfl) ?_
      refine lv_iconst (v := nI 0) hx hb dL_law_1045 (by decide) ?_
      refine q_lald hx hb hK hg1 0 (rfl) (by omega) (by decide) dL_law_1046 ?_
      refine lv_iload hx hb dL_law_1047 (lv_at hl 0 rfl) ?_
      refine lv_i2l (v := r2.toInt64) hx hb dL_law_1049 rfl ?_
      refine W.lcmp hx hb dL_law_1050 ?_
      have hv9 : lg_cmp (g 0) r2.toInt64 = 0 := by rw [hg2 c1041, hr2 c1041]; exact lg_z _
      refine lv_if_eq (tgt := 1056) hx hb dL_law_1051 (by decide) (fun c1051 => ?_) (fun c1051 => ?_)
      · skip
        refine lv_goto (tgt := 2402) hx hb dL_law_1056 (by decide) ?_
        refine W.widen (k := 1000) (n := 100000) (by decide) (by decide) ?_
        exact kk _ _ _ hS (lv_sub hl [2, 7] rfl)
      · skip
        exact absurd hv9 c1051
  · skip
    exact absurd rfl c1034

set_option maxHeartbeats 4000000 in
set_option maxRecDepth 100000 in
theorem lc_set {p : Program} {e : Env} {s : State} {m : MethodId} {below : List Frame} {meth : Method} {c : Code} {l : Launch} {b : Nat} {xs : Nat → Int32} {D : va_G} {T : Nat → ClassId} {ad : Nat → Nat} {m0 o o2 : Nat} {H : Heap} {locs : List Loc} {ls : Array Slot} {Q : State → Prop} (hlt : l.stackTraces = false) (hx : p.tables.exec = Jvm.exec) (hb : c.code = cL_law) (hr : meth.sig.returnType = ret) (hml : c.maxLocals = 9) (hown : s.vm.findClass RL = some m.cls) (hts : ∀ w ∈ wsL_law, w.before #[Value.ref b] s = true) (hK : KB D T s) (hKX : KX s.heap.size s) (hNc : va_Nc IAE IOB s) (hX : va_X b 6 xs s s.heap) (hbl : b < s.heap.size) (hS : va_S (fun q : Nat => s.heap.size ≤ q) s.heap H locs) (hw : PLW D T ad zz2 zz2 sr0 zr0 H) (hm : MF D T m0 (nI 0) H) (ho : pAt D H o (eL (T 6) 1 (fun _ => 0))) (ho2 : pAt D H o2 (eD (T 7) 1 (fun _ => 0))) (had : ∀ i : Nat, i < 37 → s.heap.size ≤ ad i ∧ ad i < m0) (hmo : m0 + 16 ≤ o) (hoo : o < o2) (hl : lv_has ls 9 [(5, .int (nI 0)), (4, .ref o2), (3, .ref o), (2, .ref m0), (1, .ref (ad 0)), (0, .ref b)]) (kk : ∀ (H1 : Heap) (locs1 : List Loc) (ls1 : Array Slot), va_S (fun q : Nat => s.heap.size ≤ q) s.heap H1 locs1 → lv_has ls1 9 [(5, .int (nI 0)), (0, .ref b)] → W p l e room_1 s m #[Value.ref b] below meth c H1 locs1 1000 100000 Q (F0 m 2402 ls1 [])) : W p l e room_1 s m #[Value.ref b] below meth c H locs 100 10000 Q (F0 m 1059 ls []) := by
  refine lv_aload_n hx hb dL_law_1059 rfl (lv_at hl 4 rfl) ?_
  refine lv_aload_n hx hb dL_law_1060 rfl (lv_at hl 5 rfl) ?_
  refine lv_iload hx hb dL_law_1061 (lv_at hl 0 rfl) ?_
  refine lv_iconst (v := nI 1) hx hb dL_law_1063 (by decide) ?_
  refine lv_iadd hx hb dL_law_1064 ?_
  rw [nI_add]
  refine q_sld hx hb hX hbl (Nat.not_le.mpr hbl) hS 1 rfl (by omega) dL_law_1065 ?_
  refine lv_aload_n hx hb dL_law_1066 rfl (lv_at hl 5 rfl) ?_
  refine lv_iload hx hb dL_law_1067 (lv_at hl 0 rfl) ?_
  refine lv_iconst (v := nI 2) hx hb dL_law_1069 (by decide) ?_
  refine lv_iadd hx hb dL_law_1070 ?_
  rw [nI_add]
  refine q_sld hx hb hX hbl (Nat.not_le.mpr hbl) hS 2 rfl (by omega) dL_law_1071 ?_
  refine lv_aload_n hx hb dL_law_1072 rfl (lv_at hl 5 rfl) ?_
  refine lv_iload hx hb dL_law_1073 (lv_at hl 0 rfl) ?_
  refine lv_iconst (v := nI 3) hx hb dL_law_1075 (by decide) ?_
  refine lv_iadd hx hb dL_law_1076 ?_
  rw [nI_add]
  refine q_sld hx hb hX hbl (Nat.not_le.mpr hbl) hS 3 rfl (by omega) dL_law_1077 ?_
  refine lv_aload_n hx hb dL_law_1078 rfl (lv_at hl 2 rfl) ?_
  obtain ⟨z1, hq1⟩ : ∃ z : Nat, z = H.size := ⟨_, rfl⟩
  have lm := hm.lt
  have lo := ho.lt
  refine va_calli (vx_runSW (As := [.ref (ad 0), .int (xs 1), .int (xs 2), .int (xs 3), .ref o]) (rest := []) ⟨hx, hb, hml, hown, hts⟩ (wr_set l hlt D T s.heap.size z1 o ad _ (xs 1) (xs 2) (xs 3) (fun i hi => (had i hi).1) (by have := hS.1; omega) (fun i hi => by have := had i hi; omega)) (vx_cwSW 5 hts gL_law_L_set rfl rfl rfl (by decide +kernel) ⟨Nat.le_of_ble_eq_true rfl, Nat.le_of_ble_eq_true rfl⟩) (preW hK hKX.1 (fun U hU hA => hKX.2.kept hA (fun a h1 h2 => by rw [hU]; exact hS.2.1 a h1 h2)) hNc ⟨hq1.symm, hw, ho⟩) rfl rfl hl.1 rfl (lv_room (Nat.le_of_ble_eq_true rfl)) dL_law_1079 ⟨Nat.le_of_ble_eq_true rfl, Nat.le_of_ble_eq_true rfl⟩) hS (fun q _ h9 => wa_N had (by have := had 0 (by omega); omega) (by have := hS.1; omega) h9) (fun q h9 => wa_N had (by have := had 0 (by omega); omega) (by have := hS.1; omega) h9) (fun r u t H1 locs1 ht hvm hr9 hB hz8 hk1 hS => ?_)
  try dsimp only at hB
  rw [ht] at hB
  replace hm := hm.kept hk1 (fun q h7 h8 => wa_m had (by omega) (by omega) h7 h8)
  obtain ⟨g, hg1, hg2⟩ := hB
  rw [hr9]
  refine lv_istore (lv' := [(6, .int (tw_set (xs 1) (xs 2) (xs 3))), (5, .int (nI 0)), (4, .ref o2), (3, .ref o), (2, .ref m0), (1, .ref (ad 0)), (0, .ref b)]) hx hb dL_law_1082 hl (by decide) rfl (fun ls hl => ?_)
  refine lv_aload_n hx hb dL_law_1084 rfl (lv_at hl 4 rfl) ?_
  refine lv_aload_n hx hb dL_law_1085 rfl (lv_at hl 6 rfl) ?_
  refine lv_iload hx hb dL_law_1086 (lv_at hl 1 rfl) ?_
  refine lv_iconst (v := nI 1) hx hb dL_law_1088 (by decide) ?_
  refine lv_iadd hx hb dL_law_1089 ?_
  rw [nI_add]
  refine q_sld hx hb hX hbl (Nat.not_le.mpr hbl) hS 1 rfl (by omega) dL_law_1090 ?_
  refine lv_aload_n hx hb dL_law_1091 rfl (lv_at hl 6 rfl) ?_
  refine lv_iload hx hb dL_law_1092 (lv_at hl 1 rfl) ?_
  refine lv_iconst (v := nI 2) hx hb dL_law_1094 (by decide) ?_
  refine lv_iadd hx hb dL_law_1095 ?_
  rw [nI_add]
  refine q_sld hx hb hX hbl (Nat.not_le.mpr hbl) hS 2 rfl (by omega) dL_law_1096 ?_
  refine lv_aload_n hx hb dL_law_1097 rfl (lv_at hl 6 rfl) ?_
  refine lv_iload hx hb dL_law_1098 (lv_at hl 1 rfl) ?_
  refine lv_iconst (v := nI 3) hx hb dL_law_1100 (by decide) ?_
  refine lv_iadd hx hb dL_law_1101 ?_
  rw [nI_add]
  refine q_sld hx hb hX hbl (Nat.not_le.mpr hbl) hS 3 rfl (by omega) dL_law_1102 ?_
  obtain ⟨z2, hq2⟩ : ∃ z : Nat, z = H1.size := ⟨_, rfl⟩
  have lm2 := hm.lt
  have lg := hg1.lt
  refine va_calli (va_runV (As := [.int (xs 1), .int (xs 2), .int (xs 3)]) (rest := []) ⟨hx, hb, hml, hown, hts⟩ (conX4_set l D T z2 m0 (nI 0) (xs 1) (xs 2) (xs 3)) (cwV 3 hts gL_law_X4_set rfl rfl rfl (by decide +kernel) ⟨Nat.le_of_ble_eq_true rfl, Nat.le_of_ble_eq_true rfl⟩) (preV hK hm.o rfl ⟨hq2.symm, hm⟩) rfl rfl hl.1 rfl (lv_room (Nat.le_of_ble_eq_true rfl)) dL_law_1103 ⟨Nat.le_of_ble_eq_true rfl, Nat.le_of_ble_eq_true rfl⟩) hS (fun q _ h9 => ma_N (had 0 (by omega)) (by have := hS.1; omega) h9) (fun q h9 => ma_N (had 0 (by omega)) (by have := hS.1; omega) h9) (fun r2 u2 t2 H2 locs2 ht2 hvm2 hr2 hB2 hz9 hk2 hS => ?_)
  try dsimp only at hB2
  rw [ht2] at hB2
  replace hg1 := hg1.kept (hk2 _ hg1.lt (fun h9 => ma_o (by omega) (by omega) h9))
  obtain ⟨vs, vv, hmt⟩ := hB2
  refine lv_istore (lv' := [(7, .int r2), (6, .int (tw_set (xs 1) (xs 2) (xs 3))), (5, .int (nI 0)), (4, .ref o2), (3, .ref o), (2, .ref m0), (1, .ref (ad 0)), (0, .ref b)]) hx hb dL_law_1106 hl (by decide) rfl (fun ls hl => ?_)
  refine lv_aload_n hx hb dL_law_1108 rfl (lv_at hl 5 rfl) ?_
  refine vp_callSi (va_runV (As := []) (rest := []) ⟨hx, hb, hml, hown, hts⟩ (conX4_thrown l D T m0 (tw_set (xs 1) (xs 2) (xs 3)) vs vv) (cwV 0 hts gL_law_X4_thrown rfl rfl rfl (by decide +kernel) ⟨Nat.le_of_ble_eq_true rfl, Nat.le_of_ble_eq_true rfl⟩) (preV hK hmt rfl hmt) rfl rfl hl.1 rfl (lv_room (Nat.le_of_ble_eq_true rfl)) dL_law_1109 ⟨Nat.le_of_ble_eq_true rfl, Nat.le_of_ble_eq_true rfl⟩).run (fun r3 hr3 => ?_)
  rw [hr3]
  refine lv_iload hx hb dL_law_1112 (lv_at hl 1 rfl) ?_
  refine lv_icmp_eq (tgt := 1119) hx hb dL_law_1114 (by decide) (fun c1114 => ?_) (fun c1114 => ?_)
  · skip
    refine lv_iload hx hb dL_law_1119 (lv_at hl 1 rfl) ?_
    refine lv_if_ne (tgt := 1136) hx hb dL_law_1121 (by decide) (fun c1121 => ?_) (fun c1121 => ?_)
    · skip
      refine lv_goto (tgt := 2402) hx hb dL_law_1136 (by decide) ?_
      refine W.widen (k := 1000) (n := 100000) (by decide) (by decide) ?_
      exact kk _ _ _ hS (lv_sub hl [2, 7] rfl)
    · skip
      refine lv_aload_n hx hb dL_law_1124 rfl (lv_at hl 4 rfl) ?_
      refine lv_iconst (v := nI 0) hx hb dL_law_1125 (by decide) ?_
      refine q_lald hx hb hK hg1 0 (rfl) (by omega) (by decide) dL_law_1126 ?_
      refine lv_iload hx hb dL_law_1127 (lv_at hl 0 rfl) ?_
      refine lv_i2l (v := r2.toInt64) hx hb dL_law_1129 rfl ?_
      refine W.lcmp hx hb dL_law_1130 ?_
      have hv9 : lg_cmp (g 0) r2.toInt64 = 0 := by rw [hg2 c1121, hr2 c1121]; exact lg_z _
      refine lv_if_eq (tgt := 1136) hx hb dL_law_1131 (by decide) (fun c1131 => ?_) (fun c1131 => ?_)
      · skip
        refine lv_goto (tgt := 2402) hx hb dL_law_1136 (by decide) ?_
        refine W.widen (k := 1000) (n := 100000) (by decide) (by decide) ?_
        exact kk _ _ _ hS (lv_sub hl [2, 7] rfl)
      · skip
        exact absurd hv9 c1131
  · skip
    exact absurd rfl c1114

set_option maxHeartbeats 4000000 in
set_option maxRecDepth 100000 in
theorem lc_mix {p : Program} {e : Env} {s : State} {m : MethodId} {below : List Frame} {meth : Method} {c : Code} {l : Launch} {b : Nat} {xs : Nat → Int32} {D : va_G} {T : Nat → ClassId} {ad : Nat → Nat} {m0 o o2 : Nat} {H : Heap} {locs : List Loc} {ls : Array Slot} {Q : State → Prop} (hlt : l.stackTraces = false) (hx : p.tables.exec = Jvm.exec) (hb : c.code = cL_law) (hr : meth.sig.returnType = ret) (hml : c.maxLocals = 9) (hown : s.vm.findClass RL = some m.cls) (hts : ∀ w ∈ wsL_law, w.before #[Value.ref b] s = true) (hK : KB D T s) (hKX : KX s.heap.size s) (hNc : va_Nc IAE IOB s) (hX : va_X b 6 xs s s.heap) (hbl : b < s.heap.size) (hS : va_S (fun q : Nat => s.heap.size ≤ q) s.heap H locs) (hw : PLW D T ad zz2 zz2 sr0 zr0 H) (hm : MF D T m0 (nI 0) H) (ho : pAt D H o (eL (T 6) 1 (fun _ => 0))) (ho2 : pAt D H o2 (eD (T 7) 1 (fun _ => 0))) (had : ∀ i : Nat, i < 37 → s.heap.size ≤ ad i ∧ ad i < m0) (hmo : m0 + 16 ≤ o) (hoo : o < o2) (hl : lv_has ls 9 [(5, .int (nI 0)), (4, .ref o2), (3, .ref o), (2, .ref m0), (1, .ref (ad 0)), (0, .ref b)]) (kk : ∀ (H1 : Heap) (locs1 : List Loc) (ls1 : Array Slot), va_S (fun q : Nat => s.heap.size ≤ q) s.heap H1 locs1 → lv_has ls1 9 [(5, .int (nI 0)), (0, .ref b)] → W p l e room_1 s m #[Value.ref b] below meth c H1 locs1 1000 100000 Q (F0 m 2402 ls1 [])) : W p l e room_1 s m #[Value.ref b] below meth c H locs 100 10000 Q (F0 m 1139 ls []) := by
  refine lv_aload_n hx hb dL_law_1139 rfl (lv_at hl 4 rfl) ?_
  refine lv_aload_n hx hb dL_law_1140 rfl (lv_at hl 5 rfl) ?_
  refine lv_iload hx hb dL_law_1141 (lv_at hl 0 rfl) ?_
  refine lv_iconst (v := nI 1) hx hb dL_law_1143 (by decide) ?_
  refine lv_iadd hx hb dL_law_1144 ?_
  rw [nI_add]
  refine q_sld hx hb hX hbl (Nat.not_le.mpr hbl) hS 1 rfl (by omega) dL_law_1145 ?_
  refine lv_aload_n hx hb dL_law_1146 rfl (lv_at hl 5 rfl) ?_
  refine lv_iload hx hb dL_law_1147 (lv_at hl 0 rfl) ?_
  refine lv_iconst (v := nI 2) hx hb dL_law_1149 (by decide) ?_
  refine lv_iadd hx hb dL_law_1150 ?_
  rw [nI_add]
  refine q_sld hx hb hX hbl (Nat.not_le.mpr hbl) hS 2 rfl (by omega) dL_law_1151 ?_
  refine lv_aload_n hx hb dL_law_1152 rfl (lv_at hl 5 rfl) ?_
  refine lv_iload hx hb dL_law_1153 (lv_at hl 0 rfl) ?_
  refine lv_iconst (v := nI 3) hx hb dL_law_1155 (by decide) ?_
  refine lv_iadd hx hb dL_law_1156 ?_
  rw [nI_add]
  refine q_sld hx hb hX hbl (Nat.not_le.mpr hbl) hS 3 rfl (by omega) dL_law_1157 ?_
  refine lv_aload_n hx hb dL_law_1158 rfl (lv_at hl 5 rfl) ?_
  refine lv_iload hx hb dL_law_1159 (lv_at hl 0 rfl) ?_
  refine lv_iconst (v := nI 4) hx hb dL_law_1161 (by decide) ?_
  refine lv_iadd hx hb dL_law_1162 ?_
  rw [nI_add]
  refine q_sld hx hb hX hbl (Nat.not_le.mpr hbl) hS 4 rfl (by omega) dL_law_1163 ?_
  refine lv_aload_n hx hb dL_law_1164 rfl (lv_at hl 2 rfl) ?_
  obtain ⟨z1, hq1⟩ : ∃ z : Nat, z = H.size := ⟨_, rfl⟩
  have lm := hm.lt
  have lo := ho.lt
  refine va_calli (vx_runSW (As := [.ref (ad 0), .int (xs 1), .int (xs 2), .int (xs 3), .int (xs 4), .ref o]) (rest := []) ⟨hx, hb, hml, hown, hts⟩ (wr_mix l hlt D T s.heap.size z1 o ad _ (xs 1) (xs 2) (xs 3) (xs 4) (fun i hi => (had i hi).1) (by have := hS.1; omega) (fun i hi => by have := had i hi; omega)) (vx_cwSW 6 hts gL_law_L_mix rfl rfl rfl (by decide +kernel) ⟨Nat.le_of_ble_eq_true rfl, Nat.le_of_ble_eq_true rfl⟩) (preW hK hKX.1 (fun U hU hA => hKX.2.kept hA (fun a h1 h2 => by rw [hU]; exact hS.2.1 a h1 h2)) hNc ⟨hq1.symm, hw, ho⟩) rfl rfl hl.1 rfl (lv_room (Nat.le_of_ble_eq_true rfl)) dL_law_1165 ⟨Nat.le_of_ble_eq_true rfl, Nat.le_of_ble_eq_true rfl⟩) hS (fun q _ h9 => wa_N had (by have := had 0 (by omega); omega) (by have := hS.1; omega) h9) (fun q h9 => wa_N had (by have := had 0 (by omega); omega) (by have := hS.1; omega) h9) (fun r u t H1 locs1 ht hvm hr9 hB hz8 hk1 hS => ?_)
  try dsimp only at hB
  rw [ht] at hB
  replace hm := hm.kept hk1 (fun q h7 h8 => wa_m had (by omega) (by omega) h7 h8)
  obtain ⟨g, hg1, hg2⟩ := hB
  rw [hr9]
  refine lv_istore (lv' := [(6, .int (tw_mix (xs 1) (xs 2) (xs 3) (xs 4))), (5, .int (nI 0)), (4, .ref o2), (3, .ref o), (2, .ref m0), (1, .ref (ad 0)), (0, .ref b)]) hx hb dL_law_1168 hl (by decide) rfl (fun ls hl => ?_)
  refine lv_aload_n hx hb dL_law_1170 rfl (lv_at hl 4 rfl) ?_
  refine lv_aload_n hx hb dL_law_1171 rfl (lv_at hl 6 rfl) ?_
  refine lv_iload hx hb dL_law_1172 (lv_at hl 1 rfl) ?_
  refine lv_iconst (v := nI 1) hx hb dL_law_1174 (by decide) ?_
  refine lv_iadd hx hb dL_law_1175 ?_
  rw [nI_add]
  refine q_sld hx hb hX hbl (Nat.not_le.mpr hbl) hS 1 rfl (by omega) dL_law_1176 ?_
  refine lv_aload_n hx hb dL_law_1177 rfl (lv_at hl 6 rfl) ?_
  refine lv_iload hx hb dL_law_1178 (lv_at hl 1 rfl) ?_
  refine lv_iconst (v := nI 2) hx hb dL_law_1180 (by decide) ?_
  refine lv_iadd hx hb dL_law_1181 ?_
  rw [nI_add]
  refine q_sld hx hb hX hbl (Nat.not_le.mpr hbl) hS 2 rfl (by omega) dL_law_1182 ?_
  refine lv_aload_n hx hb dL_law_1183 rfl (lv_at hl 6 rfl) ?_
  refine lv_iload hx hb dL_law_1184 (lv_at hl 1 rfl) ?_
  refine lv_iconst (v := nI 3) hx hb dL_law_1186 (by decide) ?_
  refine lv_iadd hx hb dL_law_1187 ?_
  rw [nI_add]
  refine q_sld hx hb hX hbl (Nat.not_le.mpr hbl) hS 3 rfl (by omega) dL_law_1188 ?_
  refine lv_aload_n hx hb dL_law_1189 rfl (lv_at hl 6 rfl) ?_
  refine lv_iload hx hb dL_law_1190 (lv_at hl 1 rfl) ?_
  refine lv_iconst (v := nI 4) hx hb dL_law_1192 (by decide) ?_
  refine lv_iadd hx hb dL_law_1193 ?_
  rw [nI_add]
  refine q_sld hx hb hX hbl (Nat.not_le.mpr hbl) hS 4 rfl (by omega) dL_law_1194 ?_
  obtain ⟨z2, hq2⟩ : ∃ z : Nat, z = H1.size := ⟨_, rfl⟩
  have lm2 := hm.lt
  have lg := hg1.lt
  refine va_calli (va_runV (As := [.int (xs 1), .int (xs 2), .int (xs 3), .int (xs 4)]) (rest := []) ⟨hx, hb, hml, hown, hts⟩ (conX4_mix l D T z2 m0 (nI 0) (xs 1) (xs 2) (xs 3) (xs 4)) (cwV 4 hts gL_law_X4_mix rfl rfl rfl (by decide +kernel) ⟨Nat.le_of_ble_eq_true rfl, Nat.le_of_ble_eq_true rfl⟩) (preV hK hm.o rfl ⟨hq2.symm, hm⟩) rfl rfl hl.1 rfl (lv_room (Nat.le_of_ble_eq_true rfl)) dL_law_1195 ⟨Nat.le_of_ble_eq_true rfl, Nat.le_of_ble_eq_true rfl⟩) hS (fun q _ h9 => ma_N (had 0 (by omega)) (by have := hS.1; omega) h9) (fun q h9 => ma_N (had 0 (by omega)) (by have := hS.1; omega) h9) (fun r2 u2 t2 H2 locs2 ht2 hvm2 hr2 hB2 hz9 hk2 hS => ?_)
  try dsimp only at hB2
  rw [ht2] at hB2
  replace hg1 := hg1.kept (hk2 _ hg1.lt (fun h9 => ma_o (by omega) (by omega) h9))
  obtain ⟨vs, vv, hmt⟩ := hB2
  refine lv_istore (lv' := [(7, .int r2), (6, .int (tw_mix (xs 1) (xs 2) (xs 3) (xs 4))), (5, .int (nI 0)), (4, .ref o2), (3, .ref o), (2, .ref m0), (1, .ref (ad 0)), (0, .ref b)]) hx hb dL_law_1198 hl (by decide) rfl (fun ls hl => ?_)
  refine lv_aload_n hx hb dL_law_1200 rfl (lv_at hl 5 rfl) ?_
  refine vp_callSi (va_runV (As := []) (rest := []) ⟨hx, hb, hml, hown, hts⟩ (conX4_thrown l D T m0 (tw_mix (xs 1) (xs 2) (xs 3) (xs 4)) vs vv) (cwV 0 hts gL_law_X4_thrown rfl rfl rfl (by decide +kernel) ⟨Nat.le_of_ble_eq_true rfl, Nat.le_of_ble_eq_true rfl⟩) (preV hK hmt rfl hmt) rfl rfl hl.1 rfl (lv_room (Nat.le_of_ble_eq_true rfl)) dL_law_1201 ⟨Nat.le_of_ble_eq_true rfl, Nat.le_of_ble_eq_true rfl⟩).run (fun r3 hr3 => ?_)
  rw [hr3]
  refine lv_iload hx hb dL_law_1204 (lv_at hl 1 rfl) ?_
  refine lv_icmp_eq (tgt := 1211) hx hb dL_law_1206 (by decide) (fun c1206 => ?_) (fun c1206 => ?_)
  · skip
    refine lv_iload hx hb dL_law_1211 (lv_at hl 1 rfl) ?_
    refine lv_if_ne (tgt := 1228) hx hb dL_law_1213 (by decide) (fun c1213 => ?_) (fun c1213 => ?_)
    · skip
      refine lv_goto (tgt := 2402) hx hb dL_law_1228 (by decide) ?_
      refine W.widen (k := 1000) (n := 100000) (by decide) (by decide) ?_
      exact kk _ _ _ hS (lv_sub hl [2, 7] rfl)
    · skip
      refine lv_aload_n hx hb dL_law_1216 rfl (lv_at hl 4 rfl) ?_
      refine lv_iconst (v := nI 0) hx hb dL_law_1217 (by decide) ?_
      refine q_lald hx hb hK hg1 0 (rfl) (by omega) (by decide) dL_law_1218 ?_
      refine lv_iload hx hb dL_law_1219 (lv_at hl 0 rfl) ?_
      refine lv_i2l (v := r2.toInt64) hx hb dL_law_1221 rfl ?_
      refine W.lcmp hx hb dL_law_1222 ?_
      have hv9 : lg_cmp (g 0) r2.toInt64 = 0 := by rw [hg2 c1213, hr2 c1213]; exact lg_z _
      refine lv_if_eq (tgt := 1228) hx hb dL_law_1223 (by decide) (fun c1223 => ?_) (fun c1223 => ?_)
      · skip
        refine lv_goto (tgt := 2402) hx hb dL_law_1228 (by decide) ?_
        refine W.widen (k := 1000) (n := 100000) (by decide) (by decide) ?_
        exact kk _ _ _ hS (lv_sub hl [2, 7] rfl)
      · skip
        exact absurd hv9 c1223
  · skip
    exact absurd rfl c1206

set_option maxHeartbeats 4000000 in
set_option maxRecDepth 100000 in
theorem lc_turn {p : Program} {e : Env} {s : State} {m : MethodId} {below : List Frame} {meth : Method} {c : Code} {l : Launch} {b : Nat} {xs : Nat → Int32} {D : va_G} {T : Nat → ClassId} {ad : Nat → Nat} {m0 o o2 : Nat} {H : Heap} {locs : List Loc} {ls : Array Slot} {Q : State → Prop} (hlt : l.stackTraces = false) (hx : p.tables.exec = Jvm.exec) (hb : c.code = cL_law) (hr : meth.sig.returnType = ret) (hml : c.maxLocals = 9) (hown : s.vm.findClass RL = some m.cls) (hts : ∀ w ∈ wsL_law, w.before #[Value.ref b] s = true) (hK : KB D T s) (hKX : KX s.heap.size s) (hNc : va_Nc IAE IOB s) (hX : va_X b 6 xs s s.heap) (hbl : b < s.heap.size) (hS : va_S (fun q : Nat => s.heap.size ≤ q) s.heap H locs) (hw : PLW D T ad zz2 zz2 sr0 zr0 H) (hm : MF D T m0 (nI 0) H) (ho : pAt D H o (eL (T 6) 1 (fun _ => 0))) (ho2 : pAt D H o2 (eD (T 7) 1 (fun _ => 0))) (had : ∀ i : Nat, i < 37 → s.heap.size ≤ ad i ∧ ad i < m0) (hmo : m0 + 16 ≤ o) (hoo : o < o2) (hl : lv_has ls 9 [(5, .int (nI 0)), (4, .ref o2), (3, .ref o), (2, .ref m0), (1, .ref (ad 0)), (0, .ref b)]) (kk : ∀ (H1 : Heap) (locs1 : List Loc) (ls1 : Array Slot), va_S (fun q : Nat => s.heap.size ≤ q) s.heap H1 locs1 → lv_has ls1 9 [(5, .int (nI 0)), (0, .ref b)] → W p l e room_1 s m #[Value.ref b] below meth c H1 locs1 1000 100000 Q (F0 m 2402 ls1 [])) : W p l e room_1 s m #[Value.ref b] below meth c H locs 100 10000 Q (F0 m 1231 ls []) := by
  refine lv_aload_n hx hb dL_law_1231 rfl (lv_at hl 4 rfl) ?_
  refine lv_aload_n hx hb dL_law_1232 rfl (lv_at hl 5 rfl) ?_
  refine lv_iload hx hb dL_law_1233 (lv_at hl 0 rfl) ?_
  refine lv_iconst (v := nI 1) hx hb dL_law_1235 (by decide) ?_
  refine lv_iadd hx hb dL_law_1236 ?_
  rw [nI_add]
  refine q_sld hx hb hX hbl (Nat.not_le.mpr hbl) hS 1 rfl (by omega) dL_law_1237 ?_
  refine lv_aload_n hx hb dL_law_1238 rfl (lv_at hl 5 rfl) ?_
  refine lv_iload hx hb dL_law_1239 (lv_at hl 0 rfl) ?_
  refine lv_iconst (v := nI 2) hx hb dL_law_1241 (by decide) ?_
  refine lv_iadd hx hb dL_law_1242 ?_
  rw [nI_add]
  refine q_sld hx hb hX hbl (Nat.not_le.mpr hbl) hS 2 rfl (by omega) dL_law_1243 ?_
  refine lv_aload_n hx hb dL_law_1244 rfl (lv_at hl 5 rfl) ?_
  refine lv_iload hx hb dL_law_1245 (lv_at hl 0 rfl) ?_
  refine lv_iconst (v := nI 3) hx hb dL_law_1247 (by decide) ?_
  refine lv_iadd hx hb dL_law_1248 ?_
  rw [nI_add]
  refine q_sld hx hb hX hbl (Nat.not_le.mpr hbl) hS 3 rfl (by omega) dL_law_1249 ?_
  refine lv_aload_n hx hb dL_law_1250 rfl (lv_at hl 2 rfl) ?_
  obtain ⟨z1, hq1⟩ : ∃ z : Nat, z = H.size := ⟨_, rfl⟩
  have lm := hm.lt
  have lo := ho.lt
  refine va_calli (vx_runSW (As := [.ref (ad 0), .int (xs 1), .int (xs 2), .int (xs 3), .ref o]) (rest := []) ⟨hx, hb, hml, hown, hts⟩ (wr_turn l hlt D T s.heap.size z1 o ad _ (xs 1) (xs 2) (xs 3) (fun i hi => (had i hi).1) (by have := hS.1; omega) (fun i hi => by have := had i hi; omega)) (vx_cwSW 5 hts gL_law_L_turn rfl rfl rfl (by decide +kernel) ⟨Nat.le_of_ble_eq_true rfl, Nat.le_of_ble_eq_true rfl⟩) (preW hK hKX.1 (fun U hU hA => hKX.2.kept hA (fun a h1 h2 => by rw [hU]; exact hS.2.1 a h1 h2)) hNc ⟨hq1.symm, hw, ho⟩) rfl rfl hl.1 rfl (lv_room (Nat.le_of_ble_eq_true rfl)) dL_law_1251 ⟨Nat.le_of_ble_eq_true rfl, Nat.le_of_ble_eq_true rfl⟩) hS (fun q _ h9 => wa_N had (by have := had 0 (by omega); omega) (by have := hS.1; omega) h9) (fun q h9 => wa_N had (by have := had 0 (by omega); omega) (by have := hS.1; omega) h9) (fun r u t H1 locs1 ht hvm hr9 hB hz8 hk1 hS => ?_)
  try dsimp only at hB
  rw [ht] at hB
  replace hm := hm.kept hk1 (fun q h7 h8 => wa_m had (by omega) (by omega) h7 h8)
  obtain ⟨g, hg1, hg2⟩ := hB
  rw [hr9]
  refine lv_istore (lv' := [(6, .int (tw_turn (xs 1) (xs 2) (xs 3))), (5, .int (nI 0)), (4, .ref o2), (3, .ref o), (2, .ref m0), (1, .ref (ad 0)), (0, .ref b)]) hx hb dL_law_1254 hl (by decide) rfl (fun ls hl => ?_)
  refine lv_aload_n hx hb dL_law_1256 rfl (lv_at hl 4 rfl) ?_
  refine lv_aload_n hx hb dL_law_1257 rfl (lv_at hl 6 rfl) ?_
  refine lv_iload hx hb dL_law_1258 (lv_at hl 1 rfl) ?_
  refine lv_iconst (v := nI 1) hx hb dL_law_1260 (by decide) ?_
  refine lv_iadd hx hb dL_law_1261 ?_
  rw [nI_add]
  refine q_sld hx hb hX hbl (Nat.not_le.mpr hbl) hS 1 rfl (by omega) dL_law_1262 ?_
  refine lv_aload_n hx hb dL_law_1263 rfl (lv_at hl 6 rfl) ?_
  refine lv_iload hx hb dL_law_1264 (lv_at hl 1 rfl) ?_
  refine lv_iconst (v := nI 2) hx hb dL_law_1266 (by decide) ?_
  refine lv_iadd hx hb dL_law_1267 ?_
  rw [nI_add]
  refine q_sld hx hb hX hbl (Nat.not_le.mpr hbl) hS 2 rfl (by omega) dL_law_1268 ?_
  refine lv_aload_n hx hb dL_law_1269 rfl (lv_at hl 6 rfl) ?_
  refine lv_iload hx hb dL_law_1270 (lv_at hl 1 rfl) ?_
  refine lv_iconst (v := nI 3) hx hb dL_law_1272 (by decide) ?_
  refine lv_iadd hx hb dL_law_1273 ?_
  rw [nI_add]
  refine q_sld hx hb hX hbl (Nat.not_le.mpr hbl) hS 3 rfl (by omega) dL_law_1274 ?_
  obtain ⟨z2, hq2⟩ : ∃ z : Nat, z = H1.size := ⟨_, rfl⟩
  have lm2 := hm.lt
  have lg := hg1.lt
  refine va_calli (va_runV (As := [.int (xs 1), .int (xs 2), .int (xs 3)]) (rest := []) ⟨hx, hb, hml, hown, hts⟩ (conX4_turn l D T z2 m0 (nI 0) (xs 1) (xs 2) (xs 3)) (cwV 3 hts gL_law_X4_turn rfl rfl rfl (by decide +kernel) ⟨Nat.le_of_ble_eq_true rfl, Nat.le_of_ble_eq_true rfl⟩) (preV hK hm.o rfl ⟨hq2.symm, hm⟩) rfl rfl hl.1 rfl (lv_room (Nat.le_of_ble_eq_true rfl)) dL_law_1275 ⟨Nat.le_of_ble_eq_true rfl, Nat.le_of_ble_eq_true rfl⟩) hS (fun q _ h9 => ma_N (had 0 (by omega)) (by have := hS.1; omega) h9) (fun q h9 => ma_N (had 0 (by omega)) (by have := hS.1; omega) h9) (fun r2 u2 t2 H2 locs2 ht2 hvm2 hr2 hB2 hz9 hk2 hS => ?_)
  try dsimp only at hB2
  rw [ht2] at hB2
  replace hg1 := hg1.kept (hk2 _ hg1.lt (fun h9 => ma_o (by omega) (by omega) h9))
  obtain ⟨vs, vv, hmt⟩ := hB2
  refine lv_istore (lv' := [(7, .int r2), (6, .int (tw_turn (xs 1) (xs 2) (xs 3))), (5, .int (nI 0)), (4, .ref o2), (3, .ref o), (2, .ref m0), (1, .ref (ad 0)), (0, .ref b)]) hx hb dL_law_1278 hl (by decide) rfl (fun ls hl => ?_)
  refine lv_aload_n hx hb dL_law_1280 rfl (lv_at hl 5 rfl) ?_
  refine vp_callSi (va_runV (As := []) (rest := []) ⟨hx, hb, hml, hown, hts⟩ (conX4_thrown l D T m0 (tw_turn (xs 1) (xs 2) (xs 3)) vs vv) (cwV 0 hts gL_law_X4_thrown rfl rfl rfl (by decide +kernel) ⟨Nat.le_of_ble_eq_true rfl, Nat.le_of_ble_eq_true rfl⟩) (preV hK hmt rfl hmt) rfl rfl hl.1 rfl (lv_room (Nat.le_of_ble_eq_true rfl)) dL_law_1281 ⟨Nat.le_of_ble_eq_true rfl, Nat.le_of_ble_eq_true rfl⟩).run (fun r3 hr3 => ?_)
  rw [hr3]
  refine lv_iload hx hb dL_law_1284 (lv_at hl 1 rfl) ?_
  refine lv_icmp_eq (tgt := 1291) hx hb dL_law_1286 (by decide) (fun c1286 => ?_) (fun c1286 => ?_)
  · skip
    refine lv_iload hx hb dL_law_1291 (lv_at hl 1 rfl) ?_
    refine lv_if_ne (tgt := 1308) hx hb dL_law_1293 (by decide) (fun c1293 => ?_) (fun c1293 => ?_)
    · skip
      refine lv_goto (tgt := 2402) hx hb dL_law_1308 (by decide) ?_
      refine W.widen (k := 1000) (n := 100000) (by decide) (by decide) ?_
      exact kk _ _ _ hS (lv_sub hl [2, 7] rfl)
    · skip
      refine lv_aload_n hx hb dL_law_1296 rfl (lv_at hl 4 rfl) ?_
      refine lv_iconst (v := nI 0) hx hb dL_law_1297 (by decide) ?_
      refine q_lald hx hb hK hg1 0 (rfl) (by omega) (by decide) dL_law_1298 ?_
      refine lv_iload hx hb dL_law_1299 (lv_at hl 0 rfl) ?_
      refine lv_i2l (v := r2.toInt64) hx hb dL_law_1301 rfl ?_
      refine W.lcmp hx hb dL_law_1302 ?_
      have hv9 : lg_cmp (g 0) r2.toInt64 = 0 := by rw [hg2 c1293, hr2 c1293]; exact lg_z _
      refine lv_if_eq (tgt := 1308) hx hb dL_law_1303 (by decide) (fun c1303 => ?_) (fun c1303 => ?_)
      · skip
        refine lv_goto (tgt := 2402) hx hb dL_law_1308 (by decide) ?_
        refine W.widen (k := 1000) (n := 100000) (by decide) (by decide) ?_
        exact kk _ _ _ hS (lv_sub hl [2, 7] rfl)
      · skip
        exact absurd hv9 c1303
  · skip
    exact absurd rfl c1286

set_option maxHeartbeats 4000000 in
set_option maxRecDepth 100000 in
theorem lc_thick {p : Program} {e : Env} {s : State} {m : MethodId} {below : List Frame} {meth : Method} {c : Code} {l : Launch} {b : Nat} {xs : Nat → Int32} {D : va_G} {T : Nat → ClassId} {ad : Nat → Nat} {m0 o o2 : Nat} {H : Heap} {locs : List Loc} {ls : Array Slot} {Q : State → Prop} (hlt : l.stackTraces = false) (hx : p.tables.exec = Jvm.exec) (hb : c.code = cL_law) (hr : meth.sig.returnType = ret) (hml : c.maxLocals = 9) (hown : s.vm.findClass RL = some m.cls) (hts : ∀ w ∈ wsL_law, w.before #[Value.ref b] s = true) (hK : KB D T s) (hKX : KX s.heap.size s) (hNc : va_Nc IAE IOB s) (hX : va_X b 6 xs s s.heap) (hbl : b < s.heap.size) (hS : va_S (fun q : Nat => s.heap.size ≤ q) s.heap H locs) (hw : PLW D T ad zz2 zz2 sr0 zr0 H) (hm : MF D T m0 (nI 0) H) (ho : pAt D H o (eL (T 6) 1 (fun _ => 0))) (ho2 : pAt D H o2 (eD (T 7) 1 (fun _ => 0))) (had : ∀ i : Nat, i < 37 → s.heap.size ≤ ad i ∧ ad i < m0) (hmo : m0 + 16 ≤ o) (hoo : o < o2) (hl : lv_has ls 9 [(5, .int (nI 0)), (4, .ref o2), (3, .ref o), (2, .ref m0), (1, .ref (ad 0)), (0, .ref b)]) (kk : ∀ (H1 : Heap) (locs1 : List Loc) (ls1 : Array Slot), va_S (fun q : Nat => s.heap.size ≤ q) s.heap H1 locs1 → lv_has ls1 9 [(5, .int (nI 0)), (0, .ref b)] → W p l e room_1 s m #[Value.ref b] below meth c H1 locs1 1000 100000 Q (F0 m 2402 ls1 [])) : W p l e room_1 s m #[Value.ref b] below meth c H locs 100 10000 Q (F0 m 1311 ls []) := by
  refine lv_aload_n hx hb dL_law_1311 rfl (lv_at hl 4 rfl) ?_
  refine lv_aload_n hx hb dL_law_1312 rfl (lv_at hl 5 rfl) ?_
  refine lv_iload hx hb dL_law_1313 (lv_at hl 0 rfl) ?_
  refine lv_iconst (v := nI 1) hx hb dL_law_1315 (by decide) ?_
  refine lv_iadd hx hb dL_law_1316 ?_
  rw [nI_add]
  refine q_sld hx hb hX hbl (Nat.not_le.mpr hbl) hS 1 rfl (by omega) dL_law_1317 ?_
  refine lv_aload_n hx hb dL_law_1318 rfl (lv_at hl 5 rfl) ?_
  refine lv_iload hx hb dL_law_1319 (lv_at hl 0 rfl) ?_
  refine lv_iconst (v := nI 2) hx hb dL_law_1321 (by decide) ?_
  refine lv_iadd hx hb dL_law_1322 ?_
  rw [nI_add]
  refine q_sld hx hb hX hbl (Nat.not_le.mpr hbl) hS 2 rfl (by omega) dL_law_1323 ?_
  refine lv_aload_n hx hb dL_law_1324 rfl (lv_at hl 2 rfl) ?_
  obtain ⟨z1, hq1⟩ : ∃ z : Nat, z = H.size := ⟨_, rfl⟩
  have lm := hm.lt
  have lo := ho.lt
  refine va_calli (vx_runSW (As := [.ref (ad 0), .int (xs 1), .int (xs 2), .ref o]) (rest := []) ⟨hx, hb, hml, hown, hts⟩ (wr_thick l hlt D T s.heap.size z1 o ad _ (xs 1) (xs 2) (fun i hi => (had i hi).1) (by have := hS.1; omega) (fun i hi => by have := had i hi; omega)) (vx_cwSW 4 hts gL_law_L_thick rfl rfl rfl (by decide +kernel) ⟨Nat.le_of_ble_eq_true rfl, Nat.le_of_ble_eq_true rfl⟩) (preW hK hKX.1 (fun U hU hA => hKX.2.kept hA (fun a h1 h2 => by rw [hU]; exact hS.2.1 a h1 h2)) hNc ⟨hq1.symm, hw, ho⟩) rfl rfl hl.1 rfl (lv_room (Nat.le_of_ble_eq_true rfl)) dL_law_1325 ⟨Nat.le_of_ble_eq_true rfl, Nat.le_of_ble_eq_true rfl⟩) hS (fun q _ h9 => wa_N had (by have := had 0 (by omega); omega) (by have := hS.1; omega) h9) (fun q h9 => wa_N had (by have := had 0 (by omega); omega) (by have := hS.1; omega) h9) (fun r u t H1 locs1 ht hvm hr9 hB hz8 hk1 hS => ?_)
  try dsimp only at hB
  rw [ht] at hB
  replace hm := hm.kept hk1 (fun q h7 h8 => wa_m had (by omega) (by omega) h7 h8)
  obtain ⟨g, hg1, hg2⟩ := hB
  rw [hr9]
  refine lv_istore (lv' := [(6, .int (tw_thick (xs 1) (xs 2))), (5, .int (nI 0)), (4, .ref o2), (3, .ref o), (2, .ref m0), (1, .ref (ad 0)), (0, .ref b)]) hx hb dL_law_1328 hl (by decide) rfl (fun ls hl => ?_)
  refine lv_aload_n hx hb dL_law_1330 rfl (lv_at hl 4 rfl) ?_
  refine lv_aload_n hx hb dL_law_1331 rfl (lv_at hl 6 rfl) ?_
  refine lv_iload hx hb dL_law_1332 (lv_at hl 1 rfl) ?_
  refine lv_iconst (v := nI 1) hx hb dL_law_1334 (by decide) ?_
  refine lv_iadd hx hb dL_law_1335 ?_
  rw [nI_add]
  refine q_sld hx hb hX hbl (Nat.not_le.mpr hbl) hS 1 rfl (by omega) dL_law_1336 ?_
  refine lv_aload_n hx hb dL_law_1337 rfl (lv_at hl 6 rfl) ?_
  refine lv_iload hx hb dL_law_1338 (lv_at hl 1 rfl) ?_
  refine lv_iconst (v := nI 2) hx hb dL_law_1340 (by decide) ?_
  refine lv_iadd hx hb dL_law_1341 ?_
  rw [nI_add]
  refine q_sld hx hb hX hbl (Nat.not_le.mpr hbl) hS 2 rfl (by omega) dL_law_1342 ?_
  obtain ⟨z2, hq2⟩ : ∃ z : Nat, z = H1.size := ⟨_, rfl⟩
  have lm2 := hm.lt
  have lg := hg1.lt
  refine va_calli (va_runV (As := [.int (xs 1), .int (xs 2)]) (rest := []) ⟨hx, hb, hml, hown, hts⟩ (conX4_thick l D T z2 m0 (nI 0) (xs 1) (xs 2)) (cwV 2 hts gL_law_X4_thick rfl rfl rfl (by decide +kernel) ⟨Nat.le_of_ble_eq_true rfl, Nat.le_of_ble_eq_true rfl⟩) (preV hK hm.o rfl ⟨hq2.symm, hm⟩) rfl rfl hl.1 rfl (lv_room (Nat.le_of_ble_eq_true rfl)) dL_law_1343 ⟨Nat.le_of_ble_eq_true rfl, Nat.le_of_ble_eq_true rfl⟩) hS (fun q _ h9 => ma_N (had 0 (by omega)) (by have := hS.1; omega) h9) (fun q h9 => ma_N (had 0 (by omega)) (by have := hS.1; omega) h9) (fun r2 u2 t2 H2 locs2 ht2 hvm2 hr2 hB2 hz9 hk2 hS => ?_)
  try dsimp only at hB2
  rw [ht2] at hB2
  replace hg1 := hg1.kept (hk2 _ hg1.lt (fun h9 => ma_o (by omega) (by omega) h9))
  obtain ⟨vs, vv, hmt⟩ := hB2
  refine lv_istore (lv' := [(7, .int r2), (6, .int (tw_thick (xs 1) (xs 2))), (5, .int (nI 0)), (4, .ref o2), (3, .ref o), (2, .ref m0), (1, .ref (ad 0)), (0, .ref b)]) hx hb dL_law_1346 hl (by decide) rfl (fun ls hl => ?_)
  refine lv_aload_n hx hb dL_law_1348 rfl (lv_at hl 5 rfl) ?_
  refine vp_callSi (va_runV (As := []) (rest := []) ⟨hx, hb, hml, hown, hts⟩ (conX4_thrown l D T m0 (tw_thick (xs 1) (xs 2)) vs vv) (cwV 0 hts gL_law_X4_thrown rfl rfl rfl (by decide +kernel) ⟨Nat.le_of_ble_eq_true rfl, Nat.le_of_ble_eq_true rfl⟩) (preV hK hmt rfl hmt) rfl rfl hl.1 rfl (lv_room (Nat.le_of_ble_eq_true rfl)) dL_law_1349 ⟨Nat.le_of_ble_eq_true rfl, Nat.le_of_ble_eq_true rfl⟩).run (fun r3 hr3 => ?_)
  rw [hr3]
  refine lv_iload hx hb dL_law_1352 (lv_at hl 1 rfl) ?_
  refine lv_icmp_eq (tgt := 1359) hx hb dL_law_1354 (by decide) (fun c1354 => ?_) (fun c1354 => ?_)
  · skip
    refine lv_iload hx hb dL_law_1359 (lv_at hl 1 rfl) ?_
    refine lv_if_ne (tgt := 1376) hx hb dL_law_1361 (by decide) (fun c1361 => ?_) (fun c1361 => ?_)
    · skip
      refine lv_goto (tgt := 2402) hx hb dL_law_1376 (by decide) ?_
      refine W.widen (k := 1000) (n := 100000) (by decide) (by decide) ?_
      exact kk _ _ _ hS (lv_sub hl [2, 7] rfl)
    · skip
      refine lv_aload_n hx hb dL_law_1364 rfl (lv_at hl 4 rfl) ?_
      refine lv_iconst (v := nI 0) hx hb dL_law_1365 (by decide) ?_
      refine q_lald hx hb hK hg1 0 (rfl) (by omega) (by decide) dL_law_1366 ?_
      refine lv_iload hx hb dL_law_1367 (lv_at hl 0 rfl) ?_
      refine lv_i2l (v := r2.toInt64) hx hb dL_law_1369 rfl ?_
      refine W.lcmp hx hb dL_law_1370 ?_
      have hv9 : lg_cmp (g 0) r2.toInt64 = 0 := by rw [hg2 c1361, hr2 c1361]; exact lg_z _
      refine lv_if_eq (tgt := 1376) hx hb dL_law_1371 (by decide) (fun c1371 => ?_) (fun c1371 => ?_)
      · skip
        refine lv_goto (tgt := 2402) hx hb dL_law_1376 (by decide) ?_
        refine W.widen (k := 1000) (n := 100000) (by decide) (by decide) ?_
        exact kk _ _ _ hS (lv_sub hl [2, 7] rfl)
      · skip
        exact absurd hv9 c1371
  · skip
    exact absurd rfl c1354

set_option maxHeartbeats 4000000 in
set_option maxRecDepth 100000 in
theorem lc_where {p : Program} {e : Env} {s : State} {m : MethodId} {below : List Frame} {meth : Method} {c : Code} {l : Launch} {b : Nat} {xs : Nat → Int32} {D : va_G} {T : Nat → ClassId} {ad : Nat → Nat} {m0 o o2 : Nat} {H : Heap} {locs : List Loc} {ls : Array Slot} {Q : State → Prop} (hlt : l.stackTraces = false) (hx : p.tables.exec = Jvm.exec) (hb : c.code = cL_law) (hr : meth.sig.returnType = ret) (hml : c.maxLocals = 9) (hown : s.vm.findClass RL = some m.cls) (hts : ∀ w ∈ wsL_law, w.before #[Value.ref b] s = true) (hK : KB D T s) (hKX : KX s.heap.size s) (hNc : va_Nc IAE IOB s) (hX : va_X b 6 xs s s.heap) (hbl : b < s.heap.size) (hS : va_S (fun q : Nat => s.heap.size ≤ q) s.heap H locs) (hw : PLW D T ad zz2 zz2 sr0 zr0 H) (hm : MF D T m0 (nI 0) H) (ho : pAt D H o (eL (T 6) 1 (fun _ => 0))) (ho2 : pAt D H o2 (eD (T 7) 1 (fun _ => 0))) (had : ∀ i : Nat, i < 37 → s.heap.size ≤ ad i ∧ ad i < m0) (hmo : m0 + 16 ≤ o) (hoo : o < o2) (hl : lv_has ls 9 [(5, .int (nI 0)), (4, .ref o2), (3, .ref o), (2, .ref m0), (1, .ref (ad 0)), (0, .ref b)]) (kk : ∀ (H1 : Heap) (locs1 : List Loc) (ls1 : Array Slot), va_S (fun q : Nat => s.heap.size ≤ q) s.heap H1 locs1 → lv_has ls1 9 [(5, .int (nI 0)), (0, .ref b)] → W p l e room_1 s m #[Value.ref b] below meth c H1 locs1 1000 100000 Q (F0 m 2402 ls1 [])) : W p l e room_1 s m #[Value.ref b] below meth c H locs 100 10000 Q (F0 m 1379 ls []) := by
  refine lv_aload_n hx hb dL_law_1379 rfl (lv_at hl 4 rfl) ?_
  refine lv_aload_n hx hb dL_law_1380 rfl (lv_at hl 5 rfl) ?_
  refine lv_iload hx hb dL_law_1381 (lv_at hl 0 rfl) ?_
  refine lv_iconst (v := nI 1) hx hb dL_law_1383 (by decide) ?_
  refine lv_iadd hx hb dL_law_1384 ?_
  rw [nI_add]
  refine q_sld hx hb hX hbl (Nat.not_le.mpr hbl) hS 1 rfl (by omega) dL_law_1385 ?_
  refine lv_aload_n hx hb dL_law_1386 rfl (lv_at hl 5 rfl) ?_
  refine lv_iload hx hb dL_law_1387 (lv_at hl 0 rfl) ?_
  refine lv_iconst (v := nI 2) hx hb dL_law_1389 (by decide) ?_
  refine lv_iadd hx hb dL_law_1390 ?_
  rw [nI_add]
  refine q_sld hx hb hX hbl (Nat.not_le.mpr hbl) hS 2 rfl (by omega) dL_law_1391 ?_
  refine lv_aload_n hx hb dL_law_1392 rfl (lv_at hl 5 rfl) ?_
  refine lv_iload hx hb dL_law_1393 (lv_at hl 0 rfl) ?_
  refine lv_iconst (v := nI 3) hx hb dL_law_1395 (by decide) ?_
  refine lv_iadd hx hb dL_law_1396 ?_
  rw [nI_add]
  refine q_sld hx hb hX hbl (Nat.not_le.mpr hbl) hS 3 rfl (by omega) dL_law_1397 ?_
  refine lv_aload_n hx hb dL_law_1398 rfl (lv_at hl 5 rfl) ?_
  refine lv_iload hx hb dL_law_1399 (lv_at hl 0 rfl) ?_
  refine lv_iconst (v := nI 4) hx hb dL_law_1401 (by decide) ?_
  refine lv_iadd hx hb dL_law_1402 ?_
  rw [nI_add]
  refine q_sld hx hb hX hbl (Nat.not_le.mpr hbl) hS 4 rfl (by omega) dL_law_1403 ?_
  refine lv_aload_n hx hb dL_law_1404 rfl (lv_at hl 2 rfl) ?_
  obtain ⟨z1, hq1⟩ : ∃ z : Nat, z = H.size := ⟨_, rfl⟩
  have lm := hm.lt
  have lo := ho.lt
  refine va_calli (vx_runSW (As := [.ref (ad 0), .int (xs 1), .int (xs 2), .int (xs 3), .int (xs 4), .ref o]) (rest := []) ⟨hx, hb, hml, hown, hts⟩ (wr_where l hlt D T s.heap.size z1 o ad _ (xs 1) (xs 2) (xs 3) (xs 4) (fun i hi => (had i hi).1) (by have := hS.1; omega) (fun i hi => by have := had i hi; omega)) (vx_cwSW 6 hts gL_law_L_where rfl rfl rfl (by decide +kernel) ⟨Nat.le_of_ble_eq_true rfl, Nat.le_of_ble_eq_true rfl⟩) (preW hK hKX.1 (fun U hU hA => hKX.2.kept hA (fun a h1 h2 => by rw [hU]; exact hS.2.1 a h1 h2)) hNc ⟨hq1.symm, hw, ho⟩) rfl rfl hl.1 rfl (lv_room (Nat.le_of_ble_eq_true rfl)) dL_law_1405 ⟨Nat.le_of_ble_eq_true rfl, Nat.le_of_ble_eq_true rfl⟩) hS (fun q _ h9 => wa_N had (by have := had 0 (by omega); omega) (by have := hS.1; omega) h9) (fun q h9 => wa_N had (by have := had 0 (by omega); omega) (by have := hS.1; omega) h9) (fun r u t H1 locs1 ht hvm hr9 hB hz8 hk1 hS => ?_)
  try dsimp only at hB
  rw [ht] at hB
  replace hm := hm.kept hk1 (fun q h7 h8 => wa_m had (by omega) (by omega) h7 h8)
  obtain ⟨g, hg1, hg2⟩ := hB
  rw [hr9]
  refine lv_istore (lv' := [(6, .int (tw_where (xs 1) (xs 2) (xs 3) (xs 4))), (5, .int (nI 0)), (4, .ref o2), (3, .ref o), (2, .ref m0), (1, .ref (ad 0)), (0, .ref b)]) hx hb dL_law_1408 hl (by decide) rfl (fun ls hl => ?_)
  refine lv_aload_n hx hb dL_law_1410 rfl (lv_at hl 4 rfl) ?_
  refine lv_aload_n hx hb dL_law_1411 rfl (lv_at hl 6 rfl) ?_
  refine lv_iload hx hb dL_law_1412 (lv_at hl 1 rfl) ?_
  refine lv_iconst (v := nI 1) hx hb dL_law_1414 (by decide) ?_
  refine lv_iadd hx hb dL_law_1415 ?_
  rw [nI_add]
  refine q_sld hx hb hX hbl (Nat.not_le.mpr hbl) hS 1 rfl (by omega) dL_law_1416 ?_
  refine lv_aload_n hx hb dL_law_1417 rfl (lv_at hl 6 rfl) ?_
  refine lv_iload hx hb dL_law_1418 (lv_at hl 1 rfl) ?_
  refine lv_iconst (v := nI 2) hx hb dL_law_1420 (by decide) ?_
  refine lv_iadd hx hb dL_law_1421 ?_
  rw [nI_add]
  refine q_sld hx hb hX hbl (Nat.not_le.mpr hbl) hS 2 rfl (by omega) dL_law_1422 ?_
  refine lv_aload_n hx hb dL_law_1423 rfl (lv_at hl 6 rfl) ?_
  refine lv_iload hx hb dL_law_1424 (lv_at hl 1 rfl) ?_
  refine lv_iconst (v := nI 3) hx hb dL_law_1426 (by decide) ?_
  refine lv_iadd hx hb dL_law_1427 ?_
  rw [nI_add]
  refine q_sld hx hb hX hbl (Nat.not_le.mpr hbl) hS 3 rfl (by omega) dL_law_1428 ?_
  refine lv_aload_n hx hb dL_law_1429 rfl (lv_at hl 6 rfl) ?_
  refine lv_iload hx hb dL_law_1430 (lv_at hl 1 rfl) ?_
  refine lv_iconst (v := nI 4) hx hb dL_law_1432 (by decide) ?_
  refine lv_iadd hx hb dL_law_1433 ?_
  rw [nI_add]
  refine q_sld hx hb hX hbl (Nat.not_le.mpr hbl) hS 4 rfl (by omega) dL_law_1434 ?_
  obtain ⟨z2, hq2⟩ : ∃ z : Nat, z = H1.size := ⟨_, rfl⟩
  have lm2 := hm.lt
  have lg := hg1.lt
  refine va_calli (va_runV (As := [.int (xs 1), .int (xs 2), .int (xs 3), .int (xs 4)]) (rest := []) ⟨hx, hb, hml, hown, hts⟩ (conX4_where l D T z2 m0 (nI 0) (xs 1) (xs 2) (xs 3) (xs 4)) (cwV 4 hts gL_law_X4_where rfl rfl rfl (by decide +kernel) ⟨Nat.le_of_ble_eq_true rfl, Nat.le_of_ble_eq_true rfl⟩) (preV hK hm.o rfl ⟨hq2.symm, hm⟩) rfl rfl hl.1 rfl (lv_room (Nat.le_of_ble_eq_true rfl)) dL_law_1435 ⟨Nat.le_of_ble_eq_true rfl, Nat.le_of_ble_eq_true rfl⟩) hS (fun q _ h9 => ma_N (had 0 (by omega)) (by have := hS.1; omega) h9) (fun q h9 => ma_N (had 0 (by omega)) (by have := hS.1; omega) h9) (fun r2 u2 t2 H2 locs2 ht2 hvm2 hr2 hB2 hz9 hk2 hS => ?_)
  try dsimp only at hB2
  rw [ht2] at hB2
  replace hg1 := hg1.kept (hk2 _ hg1.lt (fun h9 => ma_o (by omega) (by omega) h9))
  obtain ⟨vs, vv, hmt⟩ := hB2
  refine lv_istore (lv' := [(7, .int r2), (6, .int (tw_where (xs 1) (xs 2) (xs 3) (xs 4))), (5, .int (nI 0)), (4, .ref o2), (3, .ref o), (2, .ref m0), (1, .ref (ad 0)), (0, .ref b)]) hx hb dL_law_1438 hl (by decide) rfl (fun ls hl => ?_)
  refine lv_aload_n hx hb dL_law_1440 rfl (lv_at hl 5 rfl) ?_
  refine vp_callSi (va_runV (As := []) (rest := []) ⟨hx, hb, hml, hown, hts⟩ (conX4_thrown l D T m0 (tw_where (xs 1) (xs 2) (xs 3) (xs 4)) vs vv) (cwV 0 hts gL_law_X4_thrown rfl rfl rfl (by decide +kernel) ⟨Nat.le_of_ble_eq_true rfl, Nat.le_of_ble_eq_true rfl⟩) (preV hK hmt rfl hmt) rfl rfl hl.1 rfl (lv_room (Nat.le_of_ble_eq_true rfl)) dL_law_1441 ⟨Nat.le_of_ble_eq_true rfl, Nat.le_of_ble_eq_true rfl⟩).run (fun r3 hr3 => ?_)
  rw [hr3]
  refine lv_iload hx hb dL_law_1444 (lv_at hl 1 rfl) ?_
  refine lv_icmp_eq (tgt := 1451) hx hb dL_law_1446 (by decide) (fun c1446 => ?_) (fun c1446 => ?_)
  · skip
    refine lv_iload hx hb dL_law_1451 (lv_at hl 1 rfl) ?_
    refine lv_if_ne (tgt := 1468) hx hb dL_law_1453 (by decide) (fun c1453 => ?_) (fun c1453 => ?_)
    · skip
      refine lv_goto (tgt := 2402) hx hb dL_law_1468 (by decide) ?_
      refine W.widen (k := 1000) (n := 100000) (by decide) (by decide) ?_
      exact kk _ _ _ hS (lv_sub hl [2, 7] rfl)
    · skip
      refine lv_aload_n hx hb dL_law_1456 rfl (lv_at hl 4 rfl) ?_
      refine lv_iconst (v := nI 0) hx hb dL_law_1457 (by decide) ?_
      refine q_lald hx hb hK hg1 0 (rfl) (by omega) (by decide) dL_law_1458 ?_
      refine lv_iload hx hb dL_law_1459 (lv_at hl 0 rfl) ?_
      refine lv_i2l (v := r2.toInt64) hx hb dL_law_1461 rfl ?_
      refine W.lcmp hx hb dL_law_1462 ?_
      have hv9 : lg_cmp (g 0) r2.toInt64 = 0 := by rw [hg2 c1453, hr2 c1453]; exact lg_z _
      refine lv_if_eq (tgt := 1468) hx hb dL_law_1463 (by decide) (fun c1463 => ?_) (fun c1463 => ?_)
      · skip
        refine lv_goto (tgt := 2402) hx hb dL_law_1468 (by decide) ?_
        refine W.widen (k := 1000) (n := 100000) (by decide) (by decide) ?_
        exact kk _ _ _ hS (lv_sub hl [2, 7] rfl)
      · skip
        exact absurd hv9 c1463
  · skip
    exact absurd rfl c1446
