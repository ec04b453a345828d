set_option maxHeartbeats 4000000 in
set_option maxRecDepth 100000 in
theorem conX3_setOrNullM (l : Launch) (D : va_G) (T : Nat → ClassId) (ad : Nat → Nat) (F V : Nat → Nat → Int32) (sr : SRs) (C : Nat → Int32) (x : Int32) (hx0 : x < 0) : Met l yX3_setOrNull wsX3_setOrNull ({ frames := 0, cells := 0, slots := 0, locals := 0 }) (cP D T [.ref (ad 0), .int x] (fun H => PLW D T ad F V sr C H)) (va_Sq (fun r => r = none)) 0 0 (fun _ => False) := by
  refine Met.ofW (cc := cX3_setOrNull) (maxL := 2) (ret := (some (.object "PuddingstoneLine$GrainSet"))) (by decide) rfl ?_
  intro p e s m args below meth c s₁ B hml hv9
  obtain ⟨rfl, hK, hw⟩ := hv9
  have hx := B.exec
  have hb := B.bytes
  have hr := B.returns
  have hts := atoms_spec (ws := wsX3_setOrNull) B.pre
  have hown : s.vm.findClass RX3 = some m.cls := findClass_of_methodNamed B.named
  have hlocks := B.notSynchronized
  have hl := lv_entry ([.ref (ad 0), .int x]) (n := 2) (Nat.le_of_ble_eq_true rfl)
  rw [lg_entry_eq]
  generalize (lg_sl ([.ref (ad 0), .int x]) ++ List.replicate (2 - (lg_sl ([.ref (ad 0), .int x])).length) Slot.unset).toArray = ls at hl ⊢
  have hl : lv_has ls 2 [(0, .ref (ad 0)), (1, .int x)] := hl
  refine lv_iload_n hx hb dX3_setOrNull_0 rfl (lv_at hl 1 rfl) ?_
  refine lv_if_lt (tgt := 22) hx hb dX3_setOrNull_1 (by decide) (fun c1 => ?_) (fun c1 => ?_)
  · skip
    refine lv_null hx hb dX3_setOrNull_22 ?_
    exact W.aret (v := .null) hx hb hr (Or.inl ⟨_, rfl⟩) (Or.inl rfl) (fun t ht _ => ⟨none, rfl, by rfl, ht⟩) (fun q hq => absurd hq List.not_mem_nil) dX3_setOrNull_23
  · skip
    exact absurd hx0 c1

set_option maxHeartbeats 4000000 in
set_option maxRecDepth 100000 in
theorem conX3_beside (l : Launch) (D : va_G) (T : Nat → ClassId) (ad : Nat → Nat) (F V : Nat → Nat → Int32) (sr : SRs) (C : Nat → Int32) (k j : Nat) (hk : k < 8) (hj : j < 8) : Met l yX3_beside wsX3_beside ({ frames := 2, cells := 0, slots := 0, locals := 45 }) (cP D T [.ref (ad 0), .int (nI k), .int (nI j)] (fun H => PLW D T ad F V sr C H)) (vp_Si (fun r => r = besV (F k) (F j))) 0 0 (fun _ => False) := by
  refine Met.ofW (cc := cX3_beside) (maxL := 7) (ret := (some .int)) (by decide) rfl ?_
  intro p e s m args below meth c s₁ B hml hv9
  obtain ⟨rfl, hK, hw⟩ := hv9
  have hx := B.exec
  have hb := B.bytes
  have hr := B.returns
  have hts := atoms_spec (ws := wsX3_beside) B.pre
  have hown : s.vm.findClass RX3 = some m.cls := findClass_of_methodNamed B.named
  have hlocks := B.notSynchronized
  have hl := lv_entry ([.ref (ad 0), .int (nI k), .int (nI j)]) (n := 7) (Nat.le_of_ble_eq_true rfl)
  rw [lg_entry_eq]
  generalize (lg_sl ([.ref (ad 0), .int (nI k), .int (nI j)]) ++ List.replicate (7 - (lg_sl ([.ref (ad 0), .int (nI k), .int (nI j)])).length) Slot.unset).toArray = ls at hl ⊢
  have hl : lv_has ls 7 [(0, .ref (ad 0)), (1, .int (nI k)), (2, .int (nI j))] := hl
  refine lv_aload_n hx hb dX3_beside_0 rfl (lv_at hl 0 rfl) ?_
  refine lv_iload_n hx hb dX3_beside_1 rfl (lv_at hl 1 rfl) ?_
  refine va_csr (ad := fun k => .ref k) (va_runV (As := [.int (nI k)]) (rest := []) ⟨hx, hb, hml, hown, hts⟩ (conX3_setAt l D T ad F V sr C k (by omega)) (cwV 1 hts gX3_beside_X3_setAt rfl rfl rfl (by decide +kernel) ⟨Nat.le_of_ble_eq_true rfl, Nat.le_of_ble_eq_true rfl⟩) (preV hK hw.o rfl hw) rfl rfl hl.1 rfl (lv_room (Nat.le_of_ble_eq_true rfl)) dX3_beside_2 ⟨Nat.le_of_ble_eq_true rfl, Nat.le_of_ble_eq_true rfl⟩).run (fun r1 hr1 => ?_)
  subst hr1
  refine lv_astore_n (lv' := [(3, .ref (ad (4 + k))), (0, .ref (ad 0)), (1, .int (nI k)), (2, .int (nI j))]) hx hb dX3_beside_5 rfl hl (by decide) rfl (fun ls hl => ?_)
  refine lv_aload_n hx hb dX3_beside_6 rfl (lv_at hl 1 rfl) ?_
  refine lv_iload_n hx hb dX3_beside_7 rfl (lv_at hl 3 rfl) ?_
  refine va_csr (ad := fun k => .ref k) (va_runV (As := [.int (nI j)]) (rest := []) ⟨hx, hb, hml, hown, hts⟩ (conX3_setAt l D T ad F V sr C j (by omega)) (cwV 1 hts gX3_beside_X3_setAt rfl rfl rfl (by decide +kernel) ⟨Nat.le_of_ble_eq_true rfl, Nat.le_of_ble_eq_true rfl⟩) (preV hK hw.o rfl hw) rfl rfl hl.1 rfl (lv_room (Nat.le_of_ble_eq_true rfl)) dX3_beside_8 ⟨Nat.le_of_ble_eq_true rfl, Nat.le_of_ble_eq_true rfl⟩).run (fun r2 hr2 => ?_)
  subst hr2
  refine lv_astore (lv' := [(4, .ref (ad (4 + j))), (3, .ref (ad (4 + k))), (0, .ref (ad 0)), (1, .int (nI k)), (2, .int (nI j))]) hx hb dX3_beside_11 hl (by decide) rfl (fun ls hl => ?_)
  refine lv_aload_n hx hb dX3_beside_13 rfl (lv_at hl 1 rfl) ?_
  refine lv_aload hx hb dX3_beside_14 (lv_at hl 0 rfl) ?_
  refine vp_callSi (va_runV (As := [.ref (ad (4 + j))]) (rest := []) ⟨hx, hb, hml, hown, hts⟩ (conX0_isInside l D T (ad (4 + k)) (ad (13 + k)) (F k) (ad (4 + j)) (ad (13 + j)) (F j)) (cwV 1 hts gX3_beside_X0_isInside rfl rfl rfl (by decide +kernel) ⟨Nat.le_of_ble_eq_true rfl, Nat.le_of_ble_eq_true rfl⟩) (preV hK (hw.g k (by omega)) rfl ⟨⟨(hw.gs k (by omega)).1, (hw.gs k (by omega)).2.1, (hw.gs k (by omega)).2.2⟩, ⟨(hw.gs j (by omega)).1, (hw.gs j (by omega)).2.1, (hw.gs j (by omega)).2.2⟩⟩) rfl rfl hl.1 rfl (lv_room (Nat.le_of_ble_eq_true rfl)) dX3_beside_16 ⟨Nat.le_of_ble_eq_true rfl, Nat.le_of_ble_eq_true rfl⟩).run (fun r3 hr3 => ?_)
  have hi1 := hr3
  clear hr3
  refine lv_istore (lv' := [(5, .int r3), (4, .ref (ad (4 + j))), (3, .ref (ad (4 + k))), (0, .ref (ad 0)), (1, .int (nI k)), (2, .int (nI j))]) hx hb dX3_beside_19 hl (by decide) rfl (fun ls hl => ?_)
  refine lv_aload hx hb dX3_beside_21 (lv_at hl 1 rfl) ?_
  refine lv_aload_n hx hb dX3_beside_23 rfl (lv_at hl 2 rfl) ?_
  refine vp_callSi (va_runV (As := [.ref (ad (4 + k))]) (rest := []) ⟨hx, hb, hml, hown, hts⟩ (conX0_isInside l D T (ad (4 + j)) (ad (13 + j)) (F j) (ad (4 + k)) (ad (13 + k)) (F k)) (cwV 1 hts gX3_beside_X0_isInside rfl rfl rfl (by decide +kernel) ⟨Nat.le_of_ble_eq_true rfl, Nat.le_of_ble_eq_true rfl⟩) (preV hK (hw.g j (by omega)) rfl ⟨⟨(hw.gs j (by omega)).1, (hw.gs j (by omega)).2.1, (hw.gs j (by omega)).2.2⟩, ⟨(hw.gs k (by omega)).1, (hw.gs k (by omega)).2.1, (hw.gs k (by omega)).2.2⟩⟩) rfl rfl hl.1 rfl (lv_room (Nat.le_of_ble_eq_true rfl)) dX3_beside_24 ⟨Nat.le_of_ble_eq_true rfl, Nat.le_of_ble_eq_true rfl⟩).run (fun r4 hr4 => ?_)
  have hi2 := hr4
  clear hr4
  refine lv_istore (lv' := [(6, .int r4), (5, .int r3), (4, .ref (ad (4 + j))), (3, .ref (ad (4 + k))), (0, .ref (ad 0)), (1, .int (nI k)), (2, .int (nI j))]) hx hb dX3_beside_27 hl (by decide) rfl (fun ls hl => ?_)
  refine lv_iload hx hb dX3_beside_29 (lv_at hl 1 rfl) ?_
  refine lv_if_eq (tgt := 45) hx hb dX3_beside_31 (by decide) (fun c31 => ?_) (fun c31 => ?_)
  · skip
    refine lv_iload hx hb dX3_beside_45 (lv_at hl 0 rfl) ?_
    refine lv_if_eq (tgt := 52) hx hb dX3_beside_47 (by decide) (fun c47 => ?_) (fun c47 => ?_)
    · skip
      refine lv_aload_n hx hb dX3_beside_52 rfl (lv_at hl 3 rfl) ?_
      refine lv_iconst (v := nI 0) hx hb dX3_beside_53 (by decide) ?_
      refine lv_aload hx hb dX3_beside_54 (lv_at hl 2 rfl) ?_
      refine vp_callSi (va_runS (As := [.ref (ad (4 + k)), .int (nI 0), .ref (ad (4 + j))]) (rest := []) ⟨hx, hb, hml, hown, hts⟩ (conX3_canLie l D T ad F V sr C k j (nI 0) (by omega) (by omega)) (va_cwS 3 hts gX3_beside_X3_canLie rfl rfl rfl (by decide +kernel) ⟨Nat.le_of_ble_eq_true rfl, Nat.le_of_ble_eq_true rfl⟩) (preS hK hw) rfl rfl hl.1 rfl (lv_room (Nat.le_of_ble_eq_true rfl)) dX3_beside_56 ⟨Nat.le_of_ble_eq_true rfl, Nat.le_of_ble_eq_true rfl⟩).run (fun r5 hr5 => ?_)
      have hi3 := hr5
      clear hr5
      refine lv_if_eq (tgt := 66) hx hb dX3_beside_59 (by decide) (fun c59 => ?_) (fun c59 => ?_)
      · skip
        refine lv_iconst (v := nI 3) hx hb dX3_beside_66 (by decide) ?_
        exact W.iret (v := nI 3) hx hb hr (fun t ht _ => ⟨nI 3, rfl, by first | exact (bes_4 hi1 hi2 hi3 c31 c47 c59).symm | exact (bes_3 hi1 hi2 hi3 c31 c47 c59).symm, ht⟩) (fun q hq => absurd hq List.not_mem_nil) dX3_beside_67
      · skip
        refine lv_iconst (v := nI 4) hx hb dX3_beside_62 (by decide) ?_
        refine lv_goto (tgt := 67) hx hb dX3_beside_63 (by decide) ?_
        exact W.iret (v := nI 4) hx hb hr (fun t ht _ => ⟨nI 4, rfl, by first | exact (bes_4 hi1 hi2 hi3 c31 c47 c59).symm | exact (bes_3 hi1 hi2 hi3 c31 c47 c59).symm, ht⟩) (fun q hq => absurd hq List.not_mem_nil) dX3_beside_67
    · skip
      refine lv_iconst (v := nI 2) hx hb dX3_beside_50 (by decide) ?_
      exact W.iret (v := nI 2) hx hb hr (fun t ht _ => ⟨nI 2, rfl, by exact (bes_2 hi1 hi2 c31 c47).symm, ht⟩) (fun q hq => absurd hq List.not_mem_nil) dX3_beside_51
  · skip
    refine lv_iload hx hb dX3_beside_34 (lv_at hl 0 rfl) ?_
    refine lv_if_eq (tgt := 43) hx hb dX3_beside_36 (by decide) (fun c36 => ?_) (fun c36 => ?_)
    · skip
      refine lv_iconst (v := nI 1) hx hb dX3_beside_43 (by decide) ?_
      exact W.iret (v := nI 1) hx hb hr (fun t ht _ => ⟨nI 1, rfl, by first | exact (bes_0 hi1 hi2 c31 c36).symm | exact (bes_1 hi1 hi2 c31 c36).symm, ht⟩) (fun q hq => absurd hq List.not_mem_nil) dX3_beside_44
    · skip
      refine lv_iconst (v := nI 0) hx hb dX3_beside_39 (by decide) ?_
      refine lv_goto (tgt := 44) hx hb dX3_beside_40 (by decide) ?_
      exact W.iret (v := nI 0) hx hb hr (fun t ht _ => ⟨nI 0, rfl, by first | exact (bes_0 hi1 hi2 c31 c36).symm | exact (bes_1 hi1 hi2 c31 c36).symm, ht⟩) (fun q hq => absurd hq List.not_mem_nil) dX3_beside_44

set_option maxHeartbeats 4000000 in
set_option maxRecDepth 100000 in
theorem conX3_meetWith (l : Launch) (D : va_G) (T : Nat → ClassId) (ad : Nat → Nat) (F V : Nat → Nat → Int32) (sr : SRs) (C : Nat → Int32) (k j : Nat) (by9 : Int32) (hk : k < 8) (hj : j < 8) (h1 : ¬ by9 < -100) (h2 : by9 ≤ nI 100) : Met l yX3_meetWith wsX3_meetWith ({ frames := 2, cells := 0, slots := 0, locals := 43 }) (cP D T [.ref (ad 0), .int (nI k), .int by9, .int (nI j)] (fun H => PLW D T ad F V sr C H)) (vp_Si (fun r => r = mtZ (F k) (F j) (nI 2 * by9) 100)) 0 0 (fun _ => False) := by
  refine Met.ofW (cc := cX3_meetWith) (maxL := 8) (ret := (some .int)) (by decide) rfl ?_
  intro p e s m args below meth c s₁ B hml hv9
  obtain ⟨rfl, hK, hw⟩ := hv9
  have hx := B.exec
  have hb := B.bytes
  have hr := B.returns
  have hts := atoms_spec (ws := wsX3_meetWith) B.pre
  have hown : s.vm.findClass RX3 = some m.cls := findClass_of_methodNamed B.named
  have hlocks := B.notSynchronized
  have hl := lv_entry ([.ref (ad 0), .int (nI k), .int by9, .int (nI j)]) (n := 8) (Nat.le_of_ble_eq_true rfl)
  rw [lg_entry_eq]
  generalize (lg_sl ([.ref (ad 0), .int (nI k), .int by9, .int (nI j)]) ++ List.replicate (8 - (lg_sl ([.ref (ad 0), .int (nI k), .int by9, .int (nI j)])).length) Slot.unset).toArray = ls at hl ⊢
  have hl : lv_has ls 8 [(0, .ref (ad 0)), (1, .int (nI k)), (2, .int by9), (3, .int (nI j))] := hl
  refine lv_aload_n hx hb dX3_meetWith_0 rfl (lv_at hl 0 rfl) ?_
  refine lv_iload_n hx hb dX3_meetWith_1 rfl (lv_at hl 1 rfl) ?_
  refine va_csr (ad := fun k => .ref k) (va_runV (As := [.int (nI k)]) (rest := []) ⟨hx, hb, hml, hown, hts⟩ (conX3_setAt l D T ad F V sr C k (by omega)) (cwV 1 hts gX3_meetWith_X3_setAt rfl rfl rfl (by decide +kernel) ⟨Nat.le_of_ble_eq_true rfl, Nat.le_of_ble_eq_true rfl⟩) (preV hK hw.o rfl hw) rfl rfl hl.1 rfl (lv_room (Nat.le_of_ble_eq_true rfl)) dX3_meetWith_2 ⟨Nat.le_of_ble_eq_true rfl, Nat.le_of_ble_eq_true rfl⟩).run (fun r1 hr1 => ?_)
  subst hr1
  refine lv_astore (lv' := [(4, .ref (ad (4 + k))), (0, .ref (ad 0)), (1, .int (nI k)), (2, .int by9), (3, .int (nI j))]) hx hb dX3_meetWith_5 hl (by decide) rfl (fun ls hl => ?_)
  refine lv_aload_n hx hb dX3_meetWith_7 rfl (lv_at hl 1 rfl) ?_
  refine lv_iload_n hx hb dX3_meetWith_8 rfl (lv_at hl 4 rfl) ?_
  refine va_csr (ad := fun k => .ref k) (va_runV (As := [.int (nI j)]) (rest := []) ⟨hx, hb, hml, hown, hts⟩ (conX3_setAt l D T ad F V sr C j (by omega)) (cwV 1 hts gX3_meetWith_X3_setAt rfl rfl rfl (by decide +kernel) ⟨Nat.le_of_ble_eq_true rfl, Nat.le_of_ble_eq_true rfl⟩) (preV hK hw.o rfl hw) rfl rfl hl.1 rfl (lv_room (Nat.le_of_ble_eq_true rfl)) dX3_meetWith_9 ⟨Nat.le_of_ble_eq_true rfl, Nat.le_of_ble_eq_true rfl⟩).run (fun r2 hr2 => ?_)
  subst hr2
  refine lv_astore (lv' := [(5, .ref (ad (4 + j))), (4, .ref (ad (4 + k))), (0, .ref (ad 0)), (1, .int (nI k)), (2, .int by9), (3, .int (nI j))]) hx hb dX3_meetWith_12 hl (by decide) rfl (fun ls hl => ?_)
  refine lv_iload_n hx hb dX3_meetWith_14 rfl (lv_at hl 4 rfl) ?_
  refine va_csv (va_runS (As := [.int by9]) (rest := []) ⟨hx, hb, hml, hown, hts⟩ (conX3_checkMove l D T by9 h1 h2) (va_cwS 1 hts gX3_meetWith_X3_checkMove rfl rfl rfl (by decide +kernel) ⟨Nat.le_of_ble_eq_true rfl, Nat.le_of_ble_eq_true rfl⟩) (preS hK trivial) rfl rfl hl.1 rfl (lv_room (Nat.le_of_ble_eq_true rfl)) dX3_meetWith_15 ⟨Nat.le_of_ble_eq_true rfl, Nat.le_of_ble_eq_true rfl⟩).run (fun _ => ?_)
  refine lv_iconst (v := nI 0) hx hb dX3_meetWith_18 (by decide) ?_
  refine lv_istore (lv' := [(6, .int (nI 0)), (5, .ref (ad (4 + j))), (4, .ref (ad (4 + k))), (0, .ref (ad 0)), (1, .int (nI k)), (2, .int by9), (3, .int (nI j))]) hx hb dX3_meetWith_19 hl (by decide) rfl (fun ls hl => ?_)
  refine lv_iconst (v := nI 1) hx hb dX3_meetWith_21 (by decide) ?_
  refine lv_istore (lv' := [(7, .int (nI 1)), (6, .int (nI 0)), (5, .ref (ad (4 + j))), (4, .ref (ad (4 + k))), (0, .ref (ad 0)), (1, .int (nI k)), (2, .int by9), (3, .int (nI j))]) hx hb dX3_meetWith_22 hl (by decide) rfl (fun ls hl => ?_)
  refine q_for (fun (i : Nat) (H : Heap) (locs : List Loc) (ls : Array Slot) => H = s.heap ∧ locs = [] ∧ lv_has ls 8 [(7, .int (nI (2 * i + 1))), (6, .int (mtZ (F k) (F j) (nI 2 * by9) i)), (5, .ref (ad (4 + j))), (4, .ref (ad (4 + k))), (0, .ref (ad 0)), (1, .int (nI k)), (2, .int by9), (3, .int (nI j))]) (N := 100) 0 (by omega) ?_ ?_ ?_
  · skip
    have e3 : nI 0 = mtZ (F k) (F j) (nI 2 * by9) 0 := by rfl
    exact ⟨rfl, rfl, lv_sub (lv_ex hl 1 rfl (congrArg Value.int e3)) [0, 1, 2, 3, 4, 5, 6, 7] rfl⟩
  · skip
    intro i H locs ls hi9 hin9 hnext
    obtain ⟨rfl, rfl, hl⟩ := hin9
    refine lv_iload hx hb dX3_meetWith_24 (lv_at hl 0 rfl) ?_
    refine lv_sipush (v := nI 201) hx hb dX3_meetWith_26 (by decide) ?_
    refine lv_icmp_ge (tgt := 65) hx hb dX3_meetWith_29 (by decide) (fun c29 => ?_) (fun c29 => ?_)
    · skip
      have c29 : 201 ≤ 2 * i + 1 := (nc_le (a := 201) (b := 2 * i + 1) (by omega) (by omega)).mp c29
      omega
    · skip
      have c29 : ¬ (201 ≤ 2 * i + 1) := fun q9 => c29 ((nc_le (a := 201) (b := 2 * i + 1) (by omega) (by omega)).mpr q9)
      refine lv_aload hx hb dX3_meetWith_32 (lv_at hl 2 rfl) ?_
      refine lv_iload hx hb dX3_meetWith_34 (lv_at hl 0 rfl) ?_
      refine vp_callSi (va_runV (As := [.int (nI (2 * i + 1))]) (rest := []) ⟨hx, hb, hml, hown, hts⟩ (conX0_holds l D T (ad (4 + j)) (ad (13 + j)) (F j) (nI (2 * i + 1))) (cwV 1 hts gX3_meetWith_X0_holds rfl rfl rfl (by decide +kernel) ⟨Nat.le_of_ble_eq_true rfl, Nat.le_of_ble_eq_true rfl⟩) (preV hK (hw.g j (by omega)) rfl ⟨(hw.gs j (by omega)).1, (hw.gs j (by omega)).2.1, (hw.gs j (by omega)).2.2⟩) rfl rfl hl.1 rfl (lv_room (Nat.le_of_ble_eq_true rfl)) dX3_meetWith_36 ⟨Nat.le_of_ble_eq_true rfl, Nat.le_of_ble_eq_true rfl⟩).run (fun r4 hr4 => ?_)
      rw [hr4]
      refine lv_if_eq (tgt := 59) hx hb dX3_meetWith_39 (by decide) (fun c39 => ?_) (fun c39 => ?_)
      · skip
        refine lv_iinc (v := nI ((2 * i + 1) + 2)) (lv' := [(7, .int (nI ((2 * i + 1) + 2))), (6, .int (mtZ (F k) (F j) (nI 2 * by9) i)), (5, .ref (ad (4 + j))), (4, .ref (ad (4 + k))), (0, .ref (ad 0)), (1, .int (nI k)), (2, .int by9), (3, .int (nI j))]) hx hb dX3_meetWith_59 hl (k := 0) rfl (inc_2 _) (by decide) rfl (fun ls hl => ?_)
        refine lv_goto (tgt := 24) hx hb dX3_meetWith_62 (by decide) ?_
        have e5 : nI ((2 * i + 1) + 2) = nI (2 * (i + 1) + 1) := by (first | rfl | (congr 1; omega))
        have e6 : mtZ (F k) (F j) (nI 2 * by9) i = mtZ (F k) (F j) (nI 2 * by9) (i + 1) := by first | (rw [mtZ_s, if_pos c39]; done) | (rw [mtZ_s, if_neg c39, if_pos c53]; done) | (rw [mtZ_s, if_neg c39, if_neg c53]; done)
        exact hnext _ _ _ ⟨rfl, rfl, lv_sub (lv_ex (lv_ex hl 0 rfl (congrArg Value.int e5)) 1 rfl (congrArg Value.int e6)) [0, 1, 2, 3, 4, 5, 6, 7] rfl⟩
      · skip
        refine lv_aload hx hb dX3_meetWith_42 (lv_at hl 3 rfl) ?_
        refine lv_iload hx hb dX3_meetWith_44 (lv_at hl 0 rfl) ?_
        refine lv_iconst (v := nI 2) hx hb dX3_meetWith_46 (by decide) ?_
        refine lv_iload_n hx hb dX3_meetWith_47 rfl (lv_at hl 6 rfl) ?_
        refine lv_imul hx hb dX3_meetWith_48 ?_
        refine lv_isub hx hb dX3_meetWith_49 ?_
        refine vp_callSi (va_runV (As := [.int ((nI (2 * i + 1)) - ((nI 2) * by9))]) (rest := []) ⟨hx, hb, hml, hown, hts⟩ (conX0_holds l D T (ad (4 + k)) (ad (13 + k)) (F k) ((nI (2 * i + 1)) - ((nI 2) * by9))) (cwV 1 hts gX3_meetWith_X0_holds rfl rfl rfl (by decide +kernel) ⟨Nat.le_of_ble_eq_true rfl, Nat.le_of_ble_eq_true rfl⟩) (preV hK (hw.g k (by omega)) rfl ⟨(hw.gs k (by omega)).1, (hw.gs k (by omega)).2.1, (hw.gs k (by omega)).2.2⟩) rfl rfl hl.1 rfl (lv_room (Nat.le_of_ble_eq_true rfl)) dX3_meetWith_50 ⟨Nat.le_of_ble_eq_true rfl, Nat.le_of_ble_eq_true rfl⟩).run (fun r7 hr7 => ?_)
        rw [hr7]
        refine lv_if_eq (tgt := 59) hx hb dX3_meetWith_53 (by decide) (fun c53 => ?_) (fun c53 => ?_)
        · skip
          refine lv_iinc (v := nI ((2 * i + 1) + 2)) (lv' := [(7, .int (nI ((2 * i + 1) + 2))), (6, .int (mtZ (F k) (F j) (nI 2 * by9) i)), (5, .ref (ad (4 + j))), (4, .ref (ad (4 + k))), (0, .ref (ad 0)), (1, .int (nI k)), (2, .int by9), (3, .int (nI j))]) hx hb dX3_meetWith_59 hl (k := 0) rfl (inc_2 _) (by decide) rfl (fun ls hl => ?_)
          refine lv_goto (tgt := 24) hx hb dX3_meetWith_62 (by decide) ?_
          have e8 : nI ((2 * i + 1) + 2) = nI (2 * (i + 1) + 1) := by (first | rfl | (congr 1; omega))
          have e9 : mtZ (F k) (F j) (nI 2 * by9) i = mtZ (F k) (F j) (nI 2 * by9) (i + 1) := by first | (rw [mtZ_s, if_pos c39]; done) | (rw [mtZ_s, if_neg c39, if_pos c53]; done) | (rw [mtZ_s, if_neg c39, if_neg c53]; done)
          exact hnext _ _ _ ⟨rfl, rfl, lv_sub (lv_ex (lv_ex hl 0 rfl (congrArg Value.int e8)) 1 rfl (congrArg Value.int e9)) [0, 1, 2, 3, 4, 5, 6, 7] rfl⟩
        · skip
          refine lv_iinc (v := (mtZ (F k) (F j) (nI 2 * by9) i) + 1) (lv' := [(6, .int ((mtZ (F k) (F j) (nI 2 * by9) i) + 1)), (7, .int (nI (2 * i + 1))), (5, .ref (ad (4 + j))), (4, .ref (ad (4 + k))), (0, .ref (ad 0)), (1, .int (nI k)), (2, .int by9), (3, .int (nI j))]) hx hb dX3_meetWith_56 hl (k := 1) rfl (rfl) (by decide) rfl (fun ls hl => ?_)
          refine lv_iinc (v := nI ((2 * i + 1) + 2)) (lv' := [(7, .int (nI ((2 * i + 1) + 2))), (6, .int ((mtZ (F k) (F j) (nI 2 * by9) i) + 1)), (5, .ref (ad (4 + j))), (4, .ref (ad (4 + k))), (0, .ref (ad 0)), (1, .int (nI k)), (2, .int by9), (3, .int (nI j))]) hx hb dX3_meetWith_59 hl (k := 1) rfl (inc_2 _) (by decide) rfl (fun ls hl => ?_)
          refine lv_goto (tgt := 24) hx hb dX3_meetWith_62 (by decide) ?_
          have e10 : nI ((2 * i + 1) + 2) = nI (2 * (i + 1) + 1) := by (first | rfl | (congr 1; omega))
          have e11 : (mtZ (F k) (F j) (nI 2 * by9) i) + 1 = mtZ (F k) (F j) (nI 2 * by9) (i + 1) := by first | (rw [mtZ_s, if_pos c39]; done) | (rw [mtZ_s, if_neg c39, if_pos c53]; done) | (rw [mtZ_s, if_neg c39, if_neg c53]; done)
          exact hnext _ _ _ ⟨rfl, rfl, lv_sub (lv_ex (lv_ex hl 0 rfl (congrArg Value.int e10)) 1 rfl (congrArg Value.int e11)) [0, 1, 2, 3, 4, 5, 6, 7] rfl⟩
  · skip
    intro H locs ls hin9
    obtain ⟨rfl, rfl, hl⟩ := hin9
    refine lv_iload hx hb dX3_meetWith_24 (lv_at hl 0 rfl) ?_
    refine lv_sipush (v := nI 201) hx hb dX3_meetWith_26 (by decide) ?_
    refine lv_icmp_ge (tgt := 65) hx hb dX3_meetWith_29 (by decide) (fun c29 => ?_) (fun c29 => ?_)
    · skip
      have c29 : 201 ≤ 201 := (nc_le (a := 201) (b := 201) (by omega) (by omega)).mp c29
      refine lv_iload hx hb dX3_meetWith_65 (lv_at hl 1 rfl) ?_
      exact W.iret (v := mtZ (F k) (F j) (nI 2 * by9) 100) hx hb hr (fun t ht _ => ⟨mtZ (F k) (F j) (nI 2 * by9) 100, rfl, by rfl, ht⟩) (fun q hq => absurd hq List.not_mem_nil) dX3_meetWith_67
    · skip
      have c29 : ¬ (201 ≤ 201) := fun q9 => c29 ((nc_le (a := 201) (b := 201) (by omega) (by omega)).mpr q9)
      omega
