/-! THE MODEL'S METHODS -/
def inM (x lo hi : Int32) : Int32 := if x < lo then nI 0 else if hi < x then nI 0 else nI 1
def spanM (x y z : Int32) : Int32 := if x < 0 then nI 0 else if nI 100 < y then nI 0 else if y < x then nI 0 else if inM z (nI 0) (nI 3) = 0 then nI 0 else nI 1
theorem nar_inM (x lo hi : Int32) : vp_nar .boolean (inM x lo hi) = inM x lo hi := by
  unfold inM; split
  · rfl
  · split <;> rfl
set_option maxHeartbeats 4000000 in
set_option maxRecDepth 100000 in
theorem conX4_isIn (l : Launch) (D : va_G) (T : Nat → ClassId) (x lo hi : Int32) : Met l yX4_isIn wsX4_isIn ({ frames := 0, cells := 0, slots := 0, locals := 0 }) (cP D T [.int x, .int lo, .int hi] (fun H => True)) (vp_Si (fun r => r = inM x lo hi)) 0 0 (fun _ => False) := by
  refine Met.ofW (cc := cX4_isIn) (maxL := 3) (ret := (some .boolean)) (by decide) rfl ?_
  intro p e s m args below meth c s₁ B hml hv9
  obtain ⟨rfl, hK, -⟩ := hv9
  have hx := B.exec
  have hb := B.bytes
  have hr := B.returns
  have hts := atoms_spec (ws := wsX4_isIn) B.pre
  have hown : s.vm.findClass RX4 = some m.cls := findClass_of_methodNamed B.named
  have hlocks := B.notSynchronized
  have hl := lv_entry ([.int x, .int lo, .int hi]) (n := 3) (Nat.le_of_ble_eq_true rfl)
  rw [lg_entry_eq]
  generalize (lg_sl ([.int x, .int lo, .int hi]) ++ List.replicate (3 - (lg_sl ([.int x, .int lo, .int hi])).length) Slot.unset).toArray = ls at hl ⊢
  have hl : lv_has ls 3 [(0, .int x), (1, .int lo), (2, .int hi)] := hl
  refine lv_iload_n hx hb dX4_isIn_0 rfl (lv_at hl 0 rfl) ?_
  refine lv_iload_n hx hb dX4_isIn_1 rfl (lv_at hl 1 rfl) ?_
  refine lv_icmp_lt (tgt := 14) hx hb dX4_isIn_2 (by decide) (fun c2 => ?_) (fun c2 => ?_)
  · skip
    refine lv_iconst (v := nI 0) hx hb dX4_isIn_14 (by decide) ?_
    exact W.zret (v := nI 0) hx hb hr (rfl) (fun t ht _ => ⟨nI 0, rfl, by simp [inM, c2], ht⟩) (fun q hq => absurd hq List.not_mem_nil) dX4_isIn_15
  · skip
    refine lv_iload_n hx hb dX4_isIn_5 rfl (lv_at hl 0 rfl) ?_
    refine lv_iload_n hx hb dX4_isIn_6 rfl (lv_at hl 2 rfl) ?_
    refine lv_icmp_gt (tgt := 14) hx hb dX4_isIn_7 (by decide) (fun c7 => ?_) (fun c7 => ?_)
    · skip
      refine lv_iconst (v := nI 0) hx hb dX4_isIn_14 (by decide) ?_
      exact W.zret (v := nI 0) hx hb hr (rfl) (fun t ht _ => ⟨nI 0, rfl, by simp [inM, c2, c7], ht⟩) (fun q hq => absurd hq List.not_mem_nil) dX4_isIn_15
    · skip
      refine lv_iconst (v := nI 1) hx hb dX4_isIn_10 (by decide) ?_
      refine lv_goto (tgt := 15) hx hb dX4_isIn_11 (by decide) ?_
      exact W.zret (v := nI 1) hx hb hr (rfl) (fun t ht _ => ⟨nI 1, rfl, by simp [inM, c2, c7], ht⟩) (fun q hq => absurd hq List.not_mem_nil) dX4_isIn_15

set_option maxHeartbeats 4000000 in
set_option maxRecDepth 100000 in
theorem conX4_isSet (l : Launch) (D : va_G) (T : Nat → ClassId) (x : Int32) : Met l yX4_isSet wsX4_isSet ({ frames := 1, cells := 0, slots := 0, locals := 22 }) (cP D T [.int x] (fun H => True)) (vp_Si (fun r => r = inM x (nI 0) (nI 7))) 0 0 (fun _ => False) := by
  refine Met.ofW (cc := cX4_isSet) (maxL := 1) (ret := (some .boolean)) (by decide) rfl ?_
  intro p e s m args below meth c s₁ B hml hv9
  obtain ⟨rfl, hK, -⟩ := hv9
  have hx := B.exec
  have hb := B.bytes
  have hr := B.returns
  have hts := atoms_spec (ws := wsX4_isSet) B.pre
  have hown : s.vm.findClass RX4 = some m.cls := findClass_of_methodNamed B.named
  have hlocks := B.notSynchronized
  have hl := lv_entry ([.int x]) (n := 1) (Nat.le_of_ble_eq_true rfl)
  rw [lg_entry_eq]
  generalize (lg_sl ([.int x]) ++ List.replicate (1 - (lg_sl ([.int x])).length) Slot.unset).toArray = ls at hl ⊢
  have hl : lv_has ls 1 [(0, .int x)] := hl
  refine lv_iload_n hx hb dX4_isSet_0 rfl (lv_at hl 0 rfl) ?_
  refine lv_iconst (v := nI 0) hx hb dX4_isSet_1 (by decide) ?_
  refine lv_bipush (v := nI 7) hx hb dX4_isSet_2 (by decide) ?_
  refine vp_callSi (va_runS (As := [.int x, .int (nI 0), .int (nI 7)]) (rest := []) ⟨hx, hb, hml, hown, hts⟩ (conX4_isIn l D T x (nI 0) (nI 7)) (va_cwS 3 hts gX4_isSet_X4_isIn rfl rfl rfl (by decide +kernel) ⟨Nat.le_of_ble_eq_true rfl, Nat.le_of_ble_eq_true rfl⟩) (preS hK trivial) rfl rfl hl.1 rfl (lv_room (Nat.le_of_ble_eq_true rfl)) dX4_isSet_4 ⟨Nat.le_of_ble_eq_true rfl, Nat.le_of_ble_eq_true rfl⟩).run (fun r1 hr1 => ?_)
  rw [hr1]
  exact W.zret (v := inM x (nI 0) (nI 7)) hx hb hr (congrArg Value.int (nar_inM _ _ _)) (fun t ht _ => ⟨inM x (nI 0) (nI 7), rfl, by rfl, ht⟩) (fun q hq => absurd hq List.not_mem_nil) dX4_isSet_7

set_option maxHeartbeats 4000000 in
set_option maxRecDepth 100000 in
theorem conX4_isFunction (l : Launch) (D : va_G) (T : Nat → ClassId) (x : Int32) : Met l yX4_isFunction wsX4_isFunction ({ frames := 1, cells := 0, slots := 0, locals := 22 }) (cP D T [.int x] (fun H => True)) (vp_Si (fun r => r = inM x (nI 0) (nI 4))) 0 0 (fun _ => False) := by
  refine Met.ofW (cc := cX4_isFunction) (maxL := 1) (ret := (some .boolean)) (by decide) rfl ?_
  intro p e s m args below meth c s₁ B hml hv9
  obtain ⟨rfl, hK, -⟩ := hv9
  have hx := B.exec
  have hb := B.bytes
  have hr := B.returns
  have hts := atoms_spec (ws := wsX4_isFunction) B.pre
  have hown : s.vm.findClass RX4 = some m.cls := findClass_of_methodNamed B.named
  have hlocks := B.notSynchronized
  have hl := lv_entry ([.int x]) (n := 1) (Nat.le_of_ble_eq_true rfl)
  rw [lg_entry_eq]
  generalize (lg_sl ([.int x]) ++ List.replicate (1 - (lg_sl ([.int x])).length) Slot.unset).toArray = ls at hl ⊢
  have hl : lv_has ls 1 [(0, .int x)] := hl
  refine lv_iload_n hx hb dX4_isFunction_0 rfl (lv_at hl 0 rfl) ?_
  refine lv_iconst (v := nI 0) hx hb dX4_isFunction_1 (by decide) ?_
  refine lv_iconst (v := nI 4) hx hb dX4_isFunction_2 (by decide) ?_
  refine vp_callSi (va_runS (As := [.int x, .int (nI 0), .int (nI 4)]) (rest := []) ⟨hx, hb, hml, hown, hts⟩ (conX4_isIn l D T x (nI 0) (nI 4)) (va_cwS 3 hts gX4_isFunction_X4_isIn rfl rfl rfl (by decide +kernel) ⟨Nat.le_of_ble_eq_true rfl, Nat.le_of_ble_eq_true rfl⟩) (preS hK trivial) rfl rfl hl.1 rfl (lv_room (Nat.le_of_ble_eq_true rfl)) dX4_isFunction_3 ⟨Nat.le_of_ble_eq_true rfl, Nat.le_of_ble_eq_true rfl⟩).run (fun r1 hr1 => ?_)
  rw [hr1]
  exact W.zret (v := inM x (nI 0) (nI 4)) hx hb hr (congrArg Value.int (nar_inM _ _ _)) (fun t ht _ => ⟨inM x (nI 0) (nI 4), rfl, by rfl, ht⟩) (fun q hq => absurd hq List.not_mem_nil) dX4_isFunction_6

set_option maxHeartbeats 4000000 in
set_option maxRecDepth 100000 in
theorem conX4_isSpan (l : Launch) (D : va_G) (T : Nat → ClassId) (x y z : Int32) : Met l yX4_isSpan wsX4_isSpan ({ frames := 1, cells := 0, slots := 0, locals := 22 }) (cP D T [.int x, .int y, .int z] (fun H => True)) (vp_Si (fun r => r = spanM x y z)) 0 0 (fun _ => False) := by
  refine Met.ofW (cc := cX4_isSpan) (maxL := 3) (ret := (some .boolean)) (by decide) rfl ?_
  intro p e s m args below meth c s₁ B hml hv9
  obtain ⟨rfl, hK, -⟩ := hv9
  have hx := B.exec
  have hb := B.bytes
  have hr := B.returns
  have hts := atoms_spec (ws := wsX4_isSpan) B.pre
  have hown : s.vm.findClass RX4 = some m.cls := findClass_of_methodNamed B.named
  have hlocks := B.notSynchronized
  have hl := lv_entry ([.int x, .int y, .int z]) (n := 3) (Nat.le_of_ble_eq_true rfl)
  rw [lg_entry_eq]
  generalize (lg_sl ([.int x, .int y, .int z]) ++ List.replicate (3 - (lg_sl ([.int x, .int y, .int z])).length) Slot.unset).toArray = ls at hl ⊢
  have hl : lv_has ls 3 [(0, .int x), (1, .int y), (2, .int z)] := hl
  refine lv_iload_n hx hb dX4_isSpan_0 rfl (lv_at hl 0 rfl) ?_
  refine lv_if_lt (tgt := 28) hx hb dX4_isSpan_1 (by decide) (fun c1 => ?_) (fun c1 => ?_)
  · skip
    refine lv_iconst (v := nI 0) hx hb dX4_isSpan_28 (by decide) ?_
    exact W.zret (v := nI 0) hx hb hr (rfl) (fun t ht _ => ⟨nI 0, rfl, by simp [spanM, c1], ht⟩) (fun q hq => absurd hq List.not_mem_nil) dX4_isSpan_29
  · skip
    refine lv_iload_n hx hb dX4_isSpan_4 rfl (lv_at hl 1 rfl) ?_
    refine lv_bipush (v := nI 100) hx hb dX4_isSpan_5 (by decide) ?_
    refine lv_icmp_gt (tgt := 28) hx hb dX4_isSpan_7 (by decide) (fun c7 => ?_) (fun c7 => ?_)
    · skip
      refine lv_iconst (v := nI 0) hx hb dX4_isSpan_28 (by decide) ?_
      exact W.zret (v := nI 0) hx hb hr (rfl) (fun t ht _ => ⟨nI 0, rfl, by simp [spanM, c1, c7], ht⟩) (fun q hq => absurd hq List.not_mem_nil) dX4_isSpan_29
    · skip
      refine lv_iload_n hx hb dX4_isSpan_10 rfl (lv_at hl 0 rfl) ?_
      refine lv_iload_n hx hb dX4_isSpan_11 rfl (lv_at hl 1 rfl) ?_
      refine lv_icmp_gt (tgt := 28) hx hb dX4_isSpan_12 (by decide) (fun c12 => ?_) (fun c12 => ?_)
      · skip
        refine lv_iconst (v := nI 0) hx hb dX4_isSpan_28 (by decide) ?_
        exact W.zret (v := nI 0) hx hb hr (rfl) (fun t ht _ => ⟨nI 0, rfl, by simp [spanM, c1, c7, c12], ht⟩) (fun q hq => absurd hq List.not_mem_nil) dX4_isSpan_29
      · skip
        refine lv_iload_n hx hb dX4_isSpan_15 rfl (lv_at hl 2 rfl) ?_
        refine lv_iconst (v := nI 0) hx hb dX4_isSpan_16 (by decide) ?_
        refine lv_iconst (v := nI 3) hx hb dX4_isSpan_17 (by decide) ?_
        refine vp_callSi (va_runS (As := [.int z, .int (nI 0), .int (nI 3)]) (rest := []) ⟨hx, hb, hml, hown, hts⟩ (conX4_isIn l D T z (nI 0) (nI 3)) (va_cwS 3 hts gX4_isSpan_X4_isIn rfl rfl rfl (by decide +kernel) ⟨Nat.le_of_ble_eq_true rfl, Nat.le_of_ble_eq_true rfl⟩) (preS hK trivial) rfl rfl hl.1 rfl (lv_room (Nat.le_of_ble_eq_true rfl)) dX4_isSpan_18 ⟨Nat.le_of_ble_eq_true rfl, Nat.le_of_ble_eq_true rfl⟩).run (fun r1 hr1 => ?_)
        rw [hr1]
        refine lv_if_eq (tgt := 28) hx hb dX4_isSpan_21 (by decide) (fun c21 => ?_) (fun c21 => ?_)
        · skip
          refine lv_iconst (v := nI 0) hx hb dX4_isSpan_28 (by decide) ?_
          exact W.zret (v := nI 0) hx hb hr (rfl) (fun t ht _ => ⟨nI 0, rfl, by simp [spanM, c1, c7, c12, c21], ht⟩) (fun q hq => absurd hq List.not_mem_nil) dX4_isSpan_29
        · skip
          refine lv_iconst (v := nI 1) hx hb dX4_isSpan_24 (by decide) ?_
          refine lv_goto (tgt := 29) hx hb dX4_isSpan_25 (by decide) ?_
          exact W.zret (v := nI 1) hx hb hr (rfl) (fun t ht _ => ⟨nI 1, rfl, by simp [spanM, c1, c7, c12, c21], ht⟩) (fun q hq => absurd hq List.not_mem_nil) dX4_isSpan_29
