set_option maxHeartbeats 4000000 in
set_option maxRecDepth 100000 in
theorem conX3_firstGrain (l : Launch) (D : va_G) (T : Nat → ClassId) (a b ee : Nat) (ha : a ≤ 100) (hb9 : b ≤ 100) (he : ee ≤ 3) : Met l yX3_firstGrain wsX3_firstGrain ({ frames := 0, cells := 0, slots := 0, locals := 0 }) (cP D T [.int (nI a), .int (nI b), .int (nI ee)] (fun H => True)) (vp_Si (fun r => r = nI (fgN a b ee))) 0 0 (fun _ => False) := by
  refine Met.ofW (cc := cX3_firstGrain) (maxL := 3) (ret := (some .int)) (by decide) rfl ?_
  intro p e s m args below meth c s₁ B hml hv9
  obtain ⟨rfl, hK, -⟩ := hv9
  have hx := B.exec
  have hb := B.bytes
  have hr := B.returns
  have hts := atoms_spec (ws := wsX3_firstGrain) B.pre
  have hown : s.vm.findClass RX3 = some m.cls := findClass_of_methodNamed B.named
  have hlocks := B.notSynchronized
  have hl := lv_entry ([.int (nI a), .int (nI b), .int (nI ee)]) (n := 3) (Nat.le_of_ble_eq_true rfl)
  rw [lg_entry_eq]
  generalize (lg_sl ([.int (nI a), .int (nI b), .int (nI ee)]) ++ List.replicate (3 - (lg_sl ([.int (nI a), .int (nI b), .int (nI ee)])).length) Slot.unset).toArray = ls at hl ⊢
  have hl : lv_has ls 3 [(0, .int (nI a)), (1, .int (nI b)), (2, .int (nI ee))] := hl
  refine lv_iload_n hx hb dX3_firstGrain_0 rfl (lv_at hl 0 rfl) ?_
  refine lv_iload_n hx hb dX3_firstGrain_1 rfl (lv_at hl 1 rfl) ?_
  refine lv_icmp_eq (tgt := 11) hx hb dX3_firstGrain_2 (by decide) (fun c2 => ?_) (fun c2 => ?_)
  · skip
    have c2 : a = b := (nc_eq (a := a) (b := b) (by omega) (by omega)).mp c2
    refine lv_iconst (v := nI 2) hx hb dX3_firstGrain_11 (by decide) ?_
    refine lv_iload_n hx hb dX3_firstGrain_12 rfl (lv_at hl 0 rfl) ?_
    refine lv_imul hx hb dX3_firstGrain_13 ?_
    rw [pk_mul]
    refine lv_goto (tgt := 22) hx hb dX3_firstGrain_14 (by decide) ?_
    exact W.iret (v := nI (2 * a)) hx hb hr (fun t ht _ => ⟨nI (2 * a), rfl, by (simp only [fgN, c2, if_true, if_false]; try rfl), ht⟩) (fun q hq => absurd hq List.not_mem_nil) dX3_firstGrain_22
  · skip
    have c2 : ¬ (a = b) := fun q9 => c2 ((nc_eq (a := a) (b := b) (by omega) (by omega)).mpr q9)
    refine lv_iload_n hx hb dX3_firstGrain_5 rfl (lv_at hl 2 rfl) ?_
    refine lv_iconst (v := nI 1) hx hb dX3_firstGrain_6 (by decide) ?_
    refine lv_iand hx hb dX3_firstGrain_7 ?_
    rw [pk_andN (n := ee) (by omega) 1 rfl]
    refine lv_if_eq (tgt := 17) hx hb dX3_firstGrain_8 (by decide) (fun c8 => ?_) (fun c8 => ?_)
    · skip
      have c8 : ee % 2 = 0 := (nc_eq (a := ee % 2) (b := 0) (by omega) (by omega)).mp c8
      refine lv_iconst (v := nI 2) hx hb dX3_firstGrain_17 (by decide) ?_
      refine lv_iload_n hx hb dX3_firstGrain_18 rfl (lv_at hl 0 rfl) ?_
      refine lv_imul hx hb dX3_firstGrain_19 ?_
      rw [pk_mul]
      refine lv_iconst (v := nI 1) hx hb dX3_firstGrain_20 (by decide) ?_
      refine lv_iadd hx hb dX3_firstGrain_21 ?_
      rw [nI_add]
      exact W.iret (v := nI ((2 * a) + 1)) hx hb hr (fun t ht _ => ⟨nI ((2 * a) + 1), rfl, by (simp only [fgN, c2, c8, if_true, if_false]; try rfl), ht⟩) (fun q hq => absurd hq List.not_mem_nil) dX3_firstGrain_22
    · skip
      have c8 : ¬ (ee % 2 = 0) := fun q9 => c8 ((nc_eq (a := ee % 2) (b := 0) (by omega) (by omega)).mpr q9)
      refine lv_iconst (v := nI 2) hx hb dX3_firstGrain_11 (by decide) ?_
      refine lv_iload_n hx hb dX3_firstGrain_12 rfl (lv_at hl 0 rfl) ?_
      refine lv_imul hx hb dX3_firstGrain_13 ?_
      rw [pk_mul]
      refine lv_goto (tgt := 22) hx hb dX3_firstGrain_14 (by decide) ?_
      exact W.iret (v := nI (2 * a)) hx hb hr (fun t ht _ => ⟨nI (2 * a), rfl, by (simp only [fgN, c2, c8, if_true, if_false]; try rfl), ht⟩) (fun q hq => absurd hq List.not_mem_nil) dX3_firstGrain_22

set_option maxHeartbeats 4000000 in
set_option maxRecDepth 100000 in
theorem conX3_lastGrain (l : Launch) (D : va_G) (T : Nat → ClassId) (a b ee : Nat) (hab : a ≤ b) (hb9 : b ≤ 100) (he : ee ≤ 3) : Met l yX3_lastGrain wsX3_lastGrain ({ frames := 0, cells := 0, slots := 0, locals := 0 }) (cP D T [.int (nI a), .int (nI b), .int (nI ee)] (fun H => True)) (vp_Si (fun r => r.toInt + 1 = (lgN a b ee : Int))) 0 0 (fun _ => False) := by
  refine Met.ofW (cc := cX3_lastGrain) (maxL := 3) (ret := (some .int)) (by decide) rfl ?_
  intro p e s m args below meth c s₁ B hml hv9
  obtain ⟨rfl, hK, -⟩ := hv9
  have hx := B.exec
  have hb := B.bytes
  have hr := B.returns
  have hts := atoms_spec (ws := wsX3_lastGrain) B.pre
  have hown : s.vm.findClass RX3 = some m.cls := findClass_of_methodNamed B.named
  have hlocks := B.notSynchronized
  have hl := lv_entry ([.int (nI a), .int (nI b), .int (nI ee)]) (n := 3) (Nat.le_of_ble_eq_true rfl)
  rw [lg_entry_eq]
  generalize (lg_sl ([.int (nI a), .int (nI b), .int (nI ee)]) ++ List.replicate (3 - (lg_sl ([.int (nI a), .int (nI b), .int (nI ee)])).length) Slot.unset).toArray = ls at hl ⊢
  have hl : lv_has ls 3 [(0, .int (nI a)), (1, .int (nI b)), (2, .int (nI ee))] := hl
  refine lv_iload_n hx hb dX3_lastGrain_0 rfl (lv_at hl 0 rfl) ?_
  refine lv_iload_n hx hb dX3_lastGrain_1 rfl (lv_at hl 1 rfl) ?_
  refine lv_icmp_eq (tgt := 11) hx hb dX3_lastGrain_2 (by decide) (fun c2 => ?_) (fun c2 => ?_)
  · skip
    have c2 : a = b := (nc_eq (a := a) (b := b) (by omega) (by omega)).mp c2
    refine lv_iconst (v := nI 2) hx hb dX3_lastGrain_11 (by decide) ?_
    refine lv_iload_n hx hb dX3_lastGrain_12 rfl (lv_at hl 1 rfl) ?_
    refine lv_imul hx hb dX3_lastGrain_13 ?_
    rw [pk_mul]
    refine lv_goto (tgt := 22) hx hb dX3_lastGrain_14 (by decide) ?_
    exact W.iret (v := nI (2 * b)) hx hb hr (fun t ht _ => ⟨nI (2 * b), rfl, by (dsimp only); first | (rw [lgN, if_pos c2, nI_toInt (by omega)]; omega) | (rw [lgN, if_neg c2, if_neg c8, nI_toInt (by omega)]; omega) | (rw [lgN, if_neg c2, if_pos c8, pk_sub (by omega), nI_toInt (by omega)]; omega), ht⟩) (fun q hq => absurd hq List.not_mem_nil) dX3_lastGrain_22
  · skip
    have c2 : ¬ (a = b) := fun q9 => c2 ((nc_eq (a := a) (b := b) (by omega) (by omega)).mpr q9)
    refine lv_iload_n hx hb dX3_lastGrain_5 rfl (lv_at hl 2 rfl) ?_
    refine lv_iconst (v := nI 2) hx hb dX3_lastGrain_6 (by decide) ?_
    refine lv_iand hx hb dX3_lastGrain_7 ?_
    refine lv_if_eq (tgt := 17) hx hb dX3_lastGrain_8 (by decide) (fun c8 => ?_) (fun c8 => ?_)
    · skip
      have c8 : ee < 2 := (and2 he).mp c8
      refine lv_iconst (v := nI 2) hx hb dX3_lastGrain_17 (by decide) ?_
      refine lv_iload_n hx hb dX3_lastGrain_18 rfl (lv_at hl 1 rfl) ?_
      refine lv_imul hx hb dX3_lastGrain_19 ?_
      rw [pk_mul]
      refine lv_iconst (v := nI 1) hx hb dX3_lastGrain_20 (by decide) ?_
      refine lv_isub hx hb dX3_lastGrain_21 ?_
      exact W.iret (v := (nI (2 * b)) - (nI 1)) hx hb hr (fun t ht _ => ⟨(nI (2 * b)) - (nI 1), rfl, by (dsimp only); first | (rw [lgN, if_pos c2, nI_toInt (by omega)]; omega) | (rw [lgN, if_neg c2, if_neg c8, nI_toInt (by omega)]; omega) | (rw [lgN, if_neg c2, if_pos c8, pk_sub (by omega), nI_toInt (by omega)]; omega), ht⟩) (fun q hq => absurd hq List.not_mem_nil) dX3_lastGrain_22
    · skip
      have c8 : ¬ (ee < 2) := fun q9 => c8 ((and2 he).mpr q9)
      refine lv_iconst (v := nI 2) hx hb dX3_lastGrain_11 (by decide) ?_
      refine lv_iload_n hx hb dX3_lastGrain_12 rfl (lv_at hl 1 rfl) ?_
      refine lv_imul hx hb dX3_lastGrain_13 ?_
      rw [pk_mul]
      refine lv_goto (tgt := 22) hx hb dX3_lastGrain_14 (by decide) ?_
      exact W.iret (v := nI (2 * b)) hx hb hr (fun t ht _ => ⟨nI (2 * b), rfl, by (dsimp only); first | (rw [lgN, if_pos c2, nI_toInt (by omega)]; omega) | (rw [lgN, if_neg c2, if_neg c8, nI_toInt (by omega)]; omega) | (rw [lgN, if_neg c2, if_pos c8, pk_sub (by omega), nI_toInt (by omega)]; omega), ht⟩) (fun q hq => absurd hq List.not_mem_nil) dX3_lastGrain_22

set_option maxHeartbeats 4000000 in
set_option maxRecDepth 100000 in
theorem conX3_checkChoice (l : Launch) (D : va_G) (T : Nat → ClassId) (k m8 : Nat) (hk : k ≤ m8) (hm8 : m8 ≤ 10) : Met l yX3_checkChoice wsX3_checkChoice ({ frames := 0, cells := 0, slots := 0, locals := 0 }) (cP D T [.int (nI k), .int (nI m8)] (fun H => True)) (va_Sv (fun _ => True)) 0 0 (fun _ => False) := by
  refine Met.ofW (cc := cX3_checkChoice) (maxL := 2) (ret := none) (by decide) rfl ?_
  intro p e s m args below meth c s₁ B hml hv9
  obtain ⟨rfl, hK, -⟩ := hv9
  have hx := B.exec
  have hb := B.bytes
  have hr := B.returns
  have hts := atoms_spec (ws := wsX3_checkChoice) B.pre
  have hown : s.vm.findClass RX3 = some m.cls := findClass_of_methodNamed B.named
  have hlocks := B.notSynchronized
  have hl := lv_entry ([.int (nI k), .int (nI m8)]) (n := 2) (Nat.le_of_ble_eq_true rfl)
  rw [lg_entry_eq]
  generalize (lg_sl ([.int (nI k), .int (nI m8)]) ++ List.replicate (2 - (lg_sl ([.int (nI k), .int (nI m8)])).length) Slot.unset).toArray = ls at hl ⊢
  have hl : lv_has ls 2 [(0, .int (nI k)), (1, .int (nI m8))] := hl
  refine lv_iload_n hx hb dX3_checkChoice_0 rfl (lv_at hl 0 rfl) ?_
  refine lv_if_lt (tgt := 9) hx hb dX3_checkChoice_1 (by decide) (fun c1 => ?_) (fun c1 => ?_)
  · skip
    have c1 : k < 0 := (nc_lt (a := k) (b := 0) (by omega) (by omega)).mp c1
    omega
  · skip
    have c1 : ¬ (k < 0) := fun q9 => c1 ((nc_lt (a := k) (b := 0) (by omega) (by omega)).mpr q9)
    refine lv_iload_n hx hb dX3_checkChoice_4 rfl (lv_at hl 0 rfl) ?_
    refine lv_iload_n hx hb dX3_checkChoice_5 rfl (lv_at hl 1 rfl) ?_
    refine lv_icmp_le (tgt := 19) hx hb dX3_checkChoice_6 (by decide) (fun c6 => ?_) (fun c6 => ?_)
    · skip
      have c6 : k ≤ m8 := (nc_le (a := k) (b := m8) (by omega) (by omega)).mp c6
      exact W.vret hx hb hr (fun t ht _ => ⟨rfl, trivial, ht⟩) (fun q hq => absurd hq List.not_mem_nil) dX3_checkChoice_19
    · skip
      have c6 : ¬ (k ≤ m8) := fun q9 => c6 ((nc_le (a := k) (b := m8) (by omega) (by omega)).mpr q9)
      omega

set_option maxHeartbeats 4000000 in
set_option maxRecDepth 100000 in
theorem conX3_checkGrain (l : Launch) (D : va_G) (T : Nat → ClassId) (k : Nat) (hk : k < 201) : Met l yX3_checkGrain wsX3_checkGrain ({ frames := 0, cells := 0, slots := 0, locals := 0 }) (cP D T [.int (nI k)] (fun H => True)) (va_Sv (fun _ => True)) 0 0 (fun _ => False) := by
  refine Met.ofW (cc := cX3_checkGrain) (maxL := 1) (ret := none) (by decide) rfl ?_
  intro p e s m args below meth c s₁ B hml hv9
  obtain ⟨rfl, hK, -⟩ := hv9
  have hx := B.exec
  have hb := B.bytes
  have hr := B.returns
  have hts := atoms_spec (ws := wsX3_checkGrain) B.pre
  have hown : s.vm.findClass RX3 = some m.cls := findClass_of_methodNamed B.named
  have hlocks := B.notSynchronized
  have hl := lv_entry ([.int (nI k)]) (n := 1) (Nat.le_of_ble_eq_true rfl)
  rw [lg_entry_eq]
  generalize (lg_sl ([.int (nI k)]) ++ List.replicate (1 - (lg_sl ([.int (nI k)])).length) Slot.unset).toArray = ls at hl ⊢
  have hl : lv_has ls 1 [(0, .int (nI k))] := hl
  refine lv_iload_n hx hb dX3_checkGrain_0 rfl (lv_at hl 0 rfl) ?_
  refine lv_if_lt (tgt := 11) hx hb dX3_checkGrain_1 (by decide) (fun c1 => ?_) (fun c1 => ?_)
  · skip
    have c1 : k < 0 := (nc_lt (a := k) (b := 0) (by omega) (by omega)).mp c1
    omega
  · skip
    have c1 : ¬ (k < 0) := fun q9 => c1 ((nc_lt (a := k) (b := 0) (by omega) (by omega)).mpr q9)
    refine lv_iload_n hx hb dX3_checkGrain_4 rfl (lv_at hl 0 rfl) ?_
    refine lv_sipush (v := nI 201) hx hb dX3_checkGrain_5 (by decide) ?_
    refine lv_icmp_lt (tgt := 21) hx hb dX3_checkGrain_8 (by decide) (fun c8 => ?_) (fun c8 => ?_)
    · skip
      have c8 : k < 201 := (nc_lt (a := k) (b := 201) (by omega) (by omega)).mp c8
      exact W.vret hx hb hr (fun t ht _ => ⟨rfl, trivial, ht⟩) (fun q hq => absurd hq List.not_mem_nil) dX3_checkGrain_21
    · skip
      have c8 : ¬ (k < 201) := fun q9 => c8 ((nc_lt (a := k) (b := 201) (by omega) (by omega)).mpr q9)
      omega

set_option maxHeartbeats 4000000 in
set_option maxRecDepth 100000 in
theorem conX3_checkSet (l : Launch) (D : va_G) (T : Nat → ClassId) (k : Nat) (hk : k < 8) : Met l yX3_checkSet wsX3_checkSet ({ frames := 0, cells := 0, slots := 0, locals := 0 }) (cP D T [.int (nI k)] (fun H => True)) (va_Sv (fun _ => True)) 0 0 (fun _ => False) := by
  refine Met.ofW (cc := cX3_checkSet) (maxL := 1) (ret := none) (by decide) rfl ?_
  intro p e s m args below meth c s₁ B hml hv9
  obtain ⟨rfl, hK, -⟩ := hv9
  have hx := B.exec
  have hb := B.bytes
  have hr := B.returns
  have hts := atoms_spec (ws := wsX3_checkSet) B.pre
  have hown : s.vm.findClass RX3 = some m.cls := findClass_of_methodNamed B.named
  have hlocks := B.notSynchronized
  have hl := lv_entry ([.int (nI k)]) (n := 1) (Nat.le_of_ble_eq_true rfl)
  rw [lg_entry_eq]
  generalize (lg_sl ([.int (nI k)]) ++ List.replicate (1 - (lg_sl ([.int (nI k)])).length) Slot.unset).toArray = ls at hl ⊢
  have hl : lv_has ls 1 [(0, .int (nI k))] := hl
  refine lv_iload_n hx hb dX3_checkSet_0 rfl (lv_at hl 0 rfl) ?_
  refine lv_if_lt (tgt := 10) hx hb dX3_checkSet_1 (by decide) (fun c1 => ?_) (fun c1 => ?_)
  · skip
    have c1 : k < 0 := (nc_lt (a := k) (b := 0) (by omega) (by omega)).mp c1
    omega
  · skip
    have c1 : ¬ (k < 0) := fun q9 => c1 ((nc_lt (a := k) (b := 0) (by omega) (by omega)).mpr q9)
    refine lv_iload_n hx hb dX3_checkSet_4 rfl (lv_at hl 0 rfl) ?_
    refine lv_bipush (v := nI 8) hx hb dX3_checkSet_5 (by decide) ?_
    refine lv_icmp_lt (tgt := 20) hx hb dX3_checkSet_7 (by decide) (fun c7 => ?_) (fun c7 => ?_)
    · skip
      have c7 : k < 8 := (nc_lt (a := k) (b := 8) (by omega) (by omega)).mp c7
      exact W.vret hx hb hr (fun t ht _ => ⟨rfl, trivial, ht⟩) (fun q hq => absurd hq List.not_mem_nil) dX3_checkSet_20
    · skip
      have c7 : ¬ (k < 8) := fun q9 => c7 ((nc_lt (a := k) (b := 8) (by omega) (by omega)).mpr q9)
      omega

set_option maxHeartbeats 4000000 in
set_option maxRecDepth 100000 in
theorem conX3_checkFamily (l : Launch) (D : va_G) (T : Nat → ClassId) (k : Nat) (hk : k ≤ 255) : Met l yX3_checkFamily wsX3_checkFamily ({ frames := 0, cells := 0, slots := 0, locals := 0 }) (cP D T [.int (nI k)] (fun H => True)) (va_Sv (fun _ => True)) 0 0 (fun _ => False) := by
  refine Met.ofW (cc := cX3_checkFamily) (maxL := 1) (ret := none) (by decide) rfl ?_
  intro p e s m args below meth c s₁ B hml hv9
  obtain ⟨rfl, hK, -⟩ := hv9
  have hx := B.exec
  have hb := B.bytes
  have hr := B.returns
  have hts := atoms_spec (ws := wsX3_checkFamily) B.pre
  have hown : s.vm.findClass RX3 = some m.cls := findClass_of_methodNamed B.named
  have hlocks := B.notSynchronized
  have hl := lv_entry ([.int (nI k)]) (n := 1) (Nat.le_of_ble_eq_true rfl)
  rw [lg_entry_eq]
  generalize (lg_sl ([.int (nI k)]) ++ List.replicate (1 - (lg_sl ([.int (nI k)])).length) Slot.unset).toArray = ls at hl ⊢
  have hl : lv_has ls 1 [(0, .int (nI k))] := hl
  refine lv_iload_n hx hb dX3_checkFamily_0 rfl (lv_at hl 0 rfl) ?_
  refine lv_if_lt (tgt := 11) hx hb dX3_checkFamily_1 (by decide) (fun c1 => ?_) (fun c1 => ?_)
  · skip
    have c1 : k < 0 := (nc_lt (a := k) (b := 0) (by omega) (by omega)).mp c1
    omega
  · skip
    have c1 : ¬ (k < 0) := fun q9 => c1 ((nc_lt (a := k) (b := 0) (by omega) (by omega)).mpr q9)
    refine lv_iload_n hx hb dX3_checkFamily_4 rfl (lv_at hl 0 rfl) ?_
    refine lv_sipush (v := nI 255) hx hb dX3_checkFamily_5 (by decide) ?_
    refine lv_icmp_le (tgt := 21) hx hb dX3_checkFamily_8 (by decide) (fun c8 => ?_) (fun c8 => ?_)
    · skip
      have c8 : k ≤ 255 := (nc_le (a := k) (b := 255) (by omega) (by omega)).mp c8
      exact W.vret hx hb hr (fun t ht _ => ⟨rfl, trivial, ht⟩) (fun q hq => absurd hq List.not_mem_nil) dX3_checkFamily_21
    · skip
      have c8 : ¬ (k ≤ 255) := fun q9 => c8 ((nc_le (a := k) (b := 255) (by omega) (by omega)).mpr q9)
      omega

set_option maxHeartbeats 4000000 in
set_option maxRecDepth 100000 in
theorem conX3_checkMove (l : Launch) (D : va_G) (T : Nat → ClassId) (by9 : Int32) (h1 : ¬ by9 < -100) (h2 : by9 ≤ nI 100) : Met l yX3_checkMove wsX3_checkMove ({ frames := 0, cells := 0, slots := 0, locals := 0 }) (cP D T [.int by9] (fun H => True)) (va_Sv (fun _ => True)) 0 0 (fun _ => False) := by
  refine Met.ofW (cc := cX3_checkMove) (maxL := 1) (ret := none) (by decide) rfl ?_
  intro p e s m args below meth c s₁ B hml hv9
  obtain ⟨rfl, hK, -⟩ := hv9
  have hx := B.exec
  have hb := B.bytes
  have hr := B.returns
  have hts := atoms_spec (ws := wsX3_checkMove) B.pre
  have hown : s.vm.findClass RX3 = some m.cls := findClass_of_methodNamed B.named
  have hlocks := B.notSynchronized
  have hl := lv_entry ([.int by9]) (n := 1) (Nat.le_of_ble_eq_true rfl)
  rw [lg_entry_eq]
  generalize (lg_sl ([.int by9]) ++ List.replicate (1 - (lg_sl ([.int by9])).length) Slot.unset).toArray = ls at hl ⊢
  have hl : lv_has ls 1 [(0, .int by9)] := hl
  refine lv_iload_n hx hb dX3_checkMove_0 rfl (lv_at hl 0 rfl) ?_
  refine lv_bipush (v := (-100)) hx hb dX3_checkMove_1 (by decide) ?_
  refine lv_icmp_lt (tgt := 12) hx hb dX3_checkMove_3 (by decide) (fun c3 => ?_) (fun c3 => ?_)
  · skip
    exact absurd c3 (h1)
  · skip
    refine lv_iload_n hx hb dX3_checkMove_6 rfl (lv_at hl 0 rfl) ?_
    refine lv_bipush (v := nI 100) hx hb dX3_checkMove_7 (by decide) ?_
    refine lv_icmp_le (tgt := 22) hx hb dX3_checkMove_9 (by decide) (fun c9 => ?_) (fun c9 => ?_)
    · skip
      exact W.vret hx hb hr (fun t ht _ => ⟨rfl, trivial, ht⟩) (fun q hq => absurd hq List.not_mem_nil) dX3_checkMove_22
    · skip
      exact absurd h2 c9

set_option maxHeartbeats 4000000 in
set_option maxRecDepth 100000 in
theorem conX3_checkSpan (l : Launch) (D : va_G) (T : Nat → ClassId) (a b ee : Nat) (hab : a ≤ b) (hb9 : b ≤ 100) (he : ee ≤ 3) : Met l yX3_checkSpan wsX3_checkSpan ({ frames := 1, cells := 0, slots := 0, locals := 21 }) (cP D T [.int (nI a), .int (nI b), .int (nI ee)] (fun H => True)) (va_Sv (fun _ => True)) 0 0 (fun _ => False) := by
  refine Met.ofW (cc := cX3_checkSpan) (maxL := 3) (ret := none) (by decide) rfl ?_
  intro p e s m args below meth c s₁ B hml hv9
  obtain ⟨rfl, hK, -⟩ := hv9
  have hx := B.exec
  have hb := B.bytes
  have hr := B.returns
  have hts := atoms_spec (ws := wsX3_checkSpan) B.pre
  have hown : s.vm.findClass RX3 = some m.cls := findClass_of_methodNamed B.named
  have hlocks := B.notSynchronized
  have hl := lv_entry ([.int (nI a), .int (nI b), .int (nI ee)]) (n := 3) (Nat.le_of_ble_eq_true rfl)
  rw [lg_entry_eq]
  generalize (lg_sl ([.int (nI a), .int (nI b), .int (nI ee)]) ++ List.replicate (3 - (lg_sl ([.int (nI a), .int (nI b), .int (nI ee)])).length) Slot.unset).toArray = ls at hl ⊢
  have hl : lv_has ls 3 [(0, .int (nI a)), (1, .int (nI b)), (2, .int (nI ee))] := hl
  refine lv_iload_n hx hb dX3_checkSpan_0 rfl (lv_at hl 0 rfl) ?_
  refine lv_if_lt (tgt := 15) hx hb dX3_checkSpan_1 (by decide) (fun c1 => ?_) (fun c1 => ?_)
  · skip
    have c1 : a < 0 := (nc_lt (a := a) (b := 0) (by omega) (by omega)).mp c1
    omega
  · skip
    have c1 : ¬ (a < 0) := fun q9 => c1 ((nc_lt (a := a) (b := 0) (by omega) (by omega)).mpr q9)
    refine lv_iload_n hx hb dX3_checkSpan_4 rfl (lv_at hl 1 rfl) ?_
    refine lv_bipush (v := nI 100) hx hb dX3_checkSpan_5 (by decide) ?_
    refine lv_icmp_gt (tgt := 15) hx hb dX3_checkSpan_7 (by decide) (fun c7 => ?_) (fun c7 => ?_)
    · skip
      have c7 : 100 < b := (nc_lt (a := 100) (b := b) (by omega) (by omega)).mp c7
      omega
    · skip
      have c7 : ¬ (100 < b) := fun q9 => c7 ((nc_lt (a := 100) (b := b) (by omega) (by omega)).mpr q9)
      refine lv_iload_n hx hb dX3_checkSpan_10 rfl (lv_at hl 1 rfl) ?_
      refine lv_iload_n hx hb dX3_checkSpan_11 rfl (lv_at hl 0 rfl) ?_
      refine lv_icmp_ge (tgt := 25) hx hb dX3_checkSpan_12 (by decide) (fun c12 => ?_) (fun c12 => ?_)
      · skip
        have c12 : a ≤ b := (nc_le (a := a) (b := b) (by omega) (by omega)).mp c12
        refine lv_iload_n hx hb dX3_checkSpan_25 rfl (lv_at hl 2 rfl) ?_
        refine lv_iconst (v := nI 3) hx hb dX3_checkSpan_26 (by decide) ?_
        refine va_csv (va_runS (As := [.int (nI ee), .int (nI 3)]) (rest := []) ⟨hx, hb, hml, hown, hts⟩ (conX3_checkChoice l D T ee 3 (by omega) (by omega)) (va_cwS 2 hts gX3_checkSpan_X3_checkChoice rfl rfl rfl (by decide +kernel) ⟨Nat.le_of_ble_eq_true rfl, Nat.le_of_ble_eq_true rfl⟩) (preS hK trivial) rfl rfl hl.1 rfl (lv_room (Nat.le_of_ble_eq_true rfl)) dX3_checkSpan_27 ⟨Nat.le_of_ble_eq_true rfl, Nat.le_of_ble_eq_true rfl⟩).run (fun _ => ?_)
        exact W.vret hx hb hr (fun t ht _ => ⟨rfl, trivial, ht⟩) (fun q hq => absurd hq List.not_mem_nil) dX3_checkSpan_30
      · skip
        have c12 : ¬ (a ≤ b) := fun q9 => c12 ((nc_le (a := a) (b := b) (by omega) (by omega)).mpr q9)
        omega

set_option maxHeartbeats 4000000 in
set_option maxRecDepth 100000 in
theorem conX3_isJoined (l : Launch) (D : va_G) (T : Nat → ClassId) (x y : Int32) (k : Nat) (hk : k ≤ 3) : Met l yX3_isJoined wsX3_isJoined ({ frames := 0, cells := 0, slots := 0, locals := 0 }) (cP D T [.int x, .int y, .int (nI k)] (fun H => True)) (vp_Si (fun r => r = joiZ x y k)) 0 0 (fun _ => False) := by
  refine Met.ofW (cc := cX3_isJoined) (maxL := 3) (ret := (some .boolean)) (by decide) rfl ?_
  intro p e s m args below meth c s₁ B hml hv9
  obtain ⟨rfl, hK, -⟩ := hv9
  have hx := B.exec
  have hb := B.bytes
  have hr := B.returns
  have hts := atoms_spec (ws := wsX3_isJoined) B.pre
  have hown : s.vm.findClass RX3 = some m.cls := findClass_of_methodNamed B.named
  have hlocks := B.notSynchronized
  have hl := lv_entry ([.int x, .int y, .int (nI k)]) (n := 3) (Nat.le_of_ble_eq_true rfl)
  rw [lg_entry_eq]
  generalize (lg_sl ([.int x, .int y, .int (nI k)]) ++ List.replicate (3 - (lg_sl ([.int x, .int y, .int (nI k)])).length) Slot.unset).toArray = ls at hl ⊢
  have hl : lv_has ls 3 [(0, .int x), (1, .int y), (2, .int (nI k))] := hl
  refine lv_iload_n hx hb dX3_isJoined_0 rfl (lv_at hl 2 rfl) ?_
  by_cases e1_0 : k = 0
  · skip
    refine lv_tableIn (off := 27) (tgt := 28) hx hb dX3_isJoined_1 (by rw [e1_0]; decide) (by rw [e1_0]; decide) (by rw [e1_0]; rfl) (by decide) ?_
    refine lv_iload_n hx hb dX3_isJoined_28 rfl (lv_at hl 0 rfl) ?_
    refine lv_if_ne (tgt := 36) hx hb dX3_isJoined_29 (by decide) (fun c29 => ?_) (fun c29 => ?_)
    · skip
      refine lv_iconst (v := nI 1) hx hb dX3_isJoined_36 (by decide) ?_
      refine lv_goto (tgt := 41) hx hb dX3_isJoined_37 (by decide) ?_
      exact W.zret (v := nI 1) hx hb hr (rfl) (fun t ht _ => ⟨nI 1, rfl, by (simp [joiZ, e1_0, c29]), ht⟩) (fun q hq => absurd hq List.not_mem_nil) dX3_isJoined_41
    · skip
      refine lv_iload_n hx hb dX3_isJoined_32 rfl (lv_at hl 1 rfl) ?_
      refine lv_if_eq (tgt := 40) hx hb dX3_isJoined_33 (by decide) (fun c33 => ?_) (fun c33 => ?_)
      · skip
        refine lv_iconst (v := nI 0) hx hb dX3_isJoined_40 (by decide) ?_
        exact W.zret (v := nI 0) hx hb hr (rfl) (fun t ht _ => ⟨nI 0, rfl, by (simp [joiZ, e1_0, c29, c33]), ht⟩) (fun q hq => absurd hq List.not_mem_nil) dX3_isJoined_41
      · skip
        refine lv_iconst (v := nI 1) hx hb dX3_isJoined_36 (by decide) ?_
        refine lv_goto (tgt := 41) hx hb dX3_isJoined_37 (by decide) ?_
        exact W.zret (v := nI 1) hx hb hr (rfl) (fun t ht _ => ⟨nI 1, rfl, by (simp [joiZ, e1_0, c29, c33]), ht⟩) (fun q hq => absurd hq List.not_mem_nil) dX3_isJoined_41
  by_cases e1_1 : k = 1
  · skip
    refine lv_tableIn (off := 41) (tgt := 42) hx hb dX3_isJoined_1 (by rw [e1_1]; decide) (by rw [e1_1]; decide) (by rw [e1_1]; rfl) (by decide) ?_
    refine lv_iload_n hx hb dX3_isJoined_42 rfl (lv_at hl 0 rfl) ?_
    refine lv_if_eq (tgt := 54) hx hb dX3_isJoined_43 (by decide) (fun c43 => ?_) (fun c43 => ?_)
    · skip
      refine lv_iconst (v := nI 0) hx hb dX3_isJoined_54 (by decide) ?_
      exact W.zret (v := nI 0) hx hb hr (rfl) (fun t ht _ => ⟨nI 0, rfl, by (simp [joiZ, e1_1, c43]), ht⟩) (fun q hq => absurd hq List.not_mem_nil) dX3_isJoined_55
    · skip
      refine lv_iload_n hx hb dX3_isJoined_46 rfl (lv_at hl 1 rfl) ?_
      refine lv_if_eq (tgt := 54) hx hb dX3_isJoined_47 (by decide) (fun c47 => ?_) (fun c47 => ?_)
      · skip
        refine lv_iconst (v := nI 0) hx hb dX3_isJoined_54 (by decide) ?_
        exact W.zret (v := nI 0) hx hb hr (rfl) (fun t ht _ => ⟨nI 0, rfl, by (simp [joiZ, e1_1, c43, c47]), ht⟩) (fun q hq => absurd hq List.not_mem_nil) dX3_isJoined_55
      · skip
        refine lv_iconst (v := nI 1) hx hb dX3_isJoined_50 (by decide) ?_
        refine lv_goto (tgt := 55) hx hb dX3_isJoined_51 (by decide) ?_
        exact W.zret (v := nI 1) hx hb hr (rfl) (fun t ht _ => ⟨nI 1, rfl, by (simp [joiZ, e1_1, c43, c47]), ht⟩) (fun q hq => absurd hq List.not_mem_nil) dX3_isJoined_55
  by_cases e1_2 : k = 2
  · skip
    refine lv_tableIn (off := 55) (tgt := 56) hx hb dX3_isJoined_1 (by rw [e1_2]; decide) (by rw [e1_2]; decide) (by rw [e1_2]; rfl) (by decide) ?_
    refine lv_iload_n hx hb dX3_isJoined_56 rfl (lv_at hl 0 rfl) ?_
    refine lv_if_eq (tgt := 68) hx hb dX3_isJoined_57 (by decide) (fun c57 => ?_) (fun c57 => ?_)
    · skip
      refine lv_iconst (v := nI 0) hx hb dX3_isJoined_68 (by decide) ?_
      exact W.zret (v := nI 0) hx hb hr (rfl) (fun t ht _ => ⟨nI 0, rfl, by (simp [joiZ, e1_2, c57]), ht⟩) (fun q hq => absurd hq List.not_mem_nil) dX3_isJoined_69
    · skip
      refine lv_iload_n hx hb dX3_isJoined_60 rfl (lv_at hl 1 rfl) ?_
      refine lv_if_ne (tgt := 68) hx hb dX3_isJoined_61 (by decide) (fun c61 => ?_) (fun c61 => ?_)
      · skip
        refine lv_iconst (v := nI 0) hx hb dX3_isJoined_68 (by decide) ?_
        exact W.zret (v := nI 0) hx hb hr (rfl) (fun t ht _ => ⟨nI 0, rfl, by (simp [joiZ, e1_2, c57, c61]), ht⟩) (fun q hq => absurd hq List.not_mem_nil) dX3_isJoined_69
      · skip
        refine lv_iconst (v := nI 1) hx hb dX3_isJoined_64 (by decide) ?_
        refine lv_goto (tgt := 69) hx hb dX3_isJoined_65 (by decide) ?_
        exact W.zret (v := nI 1) hx hb hr (rfl) (fun t ht _ => ⟨nI 1, rfl, by (simp [joiZ, e1_2, c57, c61]), ht⟩) (fun q hq => absurd hq List.not_mem_nil) dX3_isJoined_69
  refine lv_tableOut (tgt := 70) hx hb dX3_isJoined_1 (Or.inr (by rw [nI_toInt (by omega)]; omega)) (by decide) ?_
  refine lv_iload_n hx hb dX3_isJoined_70 rfl (lv_at hl 0 rfl) ?_
  refine lv_iload_n hx hb dX3_isJoined_71 rfl (lv_at hl 1 rfl) ?_
  refine lv_icmp_eq (tgt := 79) hx hb dX3_isJoined_72 (by decide) (fun c72 => ?_) (fun c72 => ?_)
  · skip
    refine lv_iconst (v := nI 0) hx hb dX3_isJoined_79 (by decide) ?_
    exact W.zret (v := nI 0) hx hb hr (rfl) (fun t ht _ => ⟨nI 0, rfl, by (simp [joiZ, e1_0, e1_1, e1_2, c72]), ht⟩) (fun q hq => absurd hq List.not_mem_nil) dX3_isJoined_80
  · skip
    refine lv_iconst (v := nI 1) hx hb dX3_isJoined_75 (by decide) ?_
    refine lv_goto (tgt := 80) hx hb dX3_isJoined_76 (by decide) ?_
    exact W.zret (v := nI 1) hx hb hr (rfl) (fun t ht _ => ⟨nI 1, rfl, by (simp [joiZ, e1_0, e1_1, e1_2, c72]), ht⟩) (fun q hq => absurd hq List.not_mem_nil) dX3_isJoined_80

set_option maxHeartbeats 4000000 in
set_option maxRecDepth 100000 in
theorem conX3_mixed (l : Launch) (D : va_G) (T : Nat → ClassId) (x y : Int32) (k : Nat) (hk : k ≤ 4) : Met l yX3_mixed wsX3_mixed ({ frames := 1, cells := 0, slots := 0, locals := 13 }) (cP D T [.int x, .int y, .int (nI k)] (fun H => True)) (vp_Si (fun r => r = mixV x y k)) 0 0 (fun _ => False) := by
  refine Met.ofW (cc := cX3_mixed) (maxL := 3) (ret := (some .int)) (by decide) rfl ?_
  intro p e s m args below meth c s₁ B hml hv9
  obtain ⟨rfl, hK, -⟩ := hv9
  have hx := B.exec
  have hb := B.bytes
  have hr := B.returns
  have hts := atoms_spec (ws := wsX3_mixed) B.pre
  have hown : s.vm.findClass RX3 = some m.cls := findClass_of_methodNamed B.named
  have hlocks := B.notSynchronized
  have hl := lv_entry ([.int x, .int y, .int (nI k)]) (n := 3) (Nat.le_of_ble_eq_true rfl)
  rw [lg_entry_eq]
  generalize (lg_sl ([.int x, .int y, .int (nI k)]) ++ List.replicate (3 - (lg_sl ([.int x, .int y, .int (nI k)])).length) Slot.unset).toArray = ls at hl ⊢
  have hl : lv_has ls 3 [(0, .int x), (1, .int y), (2, .int (nI k))] := hl
  refine lv_iload_n hx hb dX3_mixed_0 rfl (lv_at hl 2 rfl) ?_
  by_cases e1_0 : k = 0
  · skip
    refine lv_tableIn (off := 31) (tgt := 32) hx hb dX3_mixed_1 (by rw [e1_0]; decide) (by rw [e1_0]; decide) (by rw [e1_0]; rfl) (by decide) ?_
    refine lv_iload_n hx hb dX3_mixed_32 rfl (lv_at hl 0 rfl) ?_
    refine lv_iload_n hx hb dX3_mixed_33 rfl (lv_at hl 1 rfl) ?_
    refine lv_iadd hx hb dX3_mixed_34 ?_
    exact W.iret (v := x + y) hx hb hr (fun t ht _ => ⟨x + y, rfl, by (simp [mixV, e1_0]), ht⟩) (fun q hq => absurd hq List.not_mem_nil) dX3_mixed_35
  by_cases e1_1 : k = 1
  · skip
    refine lv_tableIn (off := 35) (tgt := 36) hx hb dX3_mixed_1 (by rw [e1_1]; decide) (by rw [e1_1]; decide) (by rw [e1_1]; rfl) (by decide) ?_
    refine lv_iload_n hx hb dX3_mixed_36 rfl (lv_at hl 0 rfl) ?_
    refine lv_iload_n hx hb dX3_mixed_37 rfl (lv_at hl 1 rfl) ?_
    refine va_mmin hx hb (hml.trans hl.1.symm) hown (hts (.methodLink RX3 266 Lib.Math.min.name) (by decide +kernel)) (hts (.static Lib.Math.min.name) (by decide +kernel)) (hts (.initialized "java/lang/Math") (by decide +kernel)) (hts (.code Lib.Math.min.name Lib.Math.min.code 2 (some .int)) (by decide +kernel)) (Nat.le_of_ble_eq_true rfl) (Nat.le_of_ble_eq_true rfl) (Nat.le_of_ble_eq_true rfl) (Nat.le_of_ble_eq_true rfl) dX3_mixed_38 ?_
    exact W.iret (v := jmin x y) hx hb hr (fun t ht _ => ⟨jmin x y, rfl, by (simp [mixV, e1_1]), ht⟩) (fun q hq => absurd hq List.not_mem_nil) dX3_mixed_41
  by_cases e1_2 : k = 2
  · skip
    refine lv_tableIn (off := 41) (tgt := 42) hx hb dX3_mixed_1 (by rw [e1_2]; decide) (by rw [e1_2]; decide) (by rw [e1_2]; rfl) (by decide) ?_
    refine lv_iload_n hx hb dX3_mixed_42 rfl (lv_at hl 0 rfl) ?_
    refine lv_iload_n hx hb dX3_mixed_43 rfl (lv_at hl 1 rfl) ?_
    refine va_mmax hx hb (hml.trans hl.1.symm) hown (hts (.methodLink RX3 271 Lib.Math.max.name) (by decide +kernel)) (hts (.static Lib.Math.max.name) (by decide +kernel)) (hts (.initialized "java/lang/Math") (by decide +kernel)) (hts (.code Lib.Math.max.name Lib.Math.max.code 2 (some .int)) (by decide +kernel)) (Nat.le_of_ble_eq_true rfl) (Nat.le_of_ble_eq_true rfl) (Nat.le_of_ble_eq_true rfl) (Nat.le_of_ble_eq_true rfl) dX3_mixed_44 ?_
    exact W.iret (v := jmax x y) hx hb hr (fun t ht _ => ⟨jmax x y, rfl, by (simp [mixV, e1_2]), ht⟩) (fun q hq => absurd hq List.not_mem_nil) dX3_mixed_47
  by_cases e1_3 : k = 3
  · skip
    refine lv_tableIn (off := 47) (tgt := 48) hx hb dX3_mixed_1 (by rw [e1_3]; decide) (by rw [e1_3]; decide) (by rw [e1_3]; rfl) (by decide) ?_
    refine lv_iload_n hx hb dX3_mixed_48 rfl (lv_at hl 0 rfl) ?_
    refine lv_iload_n hx hb dX3_mixed_49 rfl (lv_at hl 1 rfl) ?_
    refine lv_isub hx hb dX3_mixed_50 ?_
    exact W.iret (v := x - y) hx hb hr (fun t ht _ => ⟨x - y, rfl, by (simp [mixV, e1_3]), ht⟩) (fun q hq => absurd hq List.not_mem_nil) dX3_mixed_51
  refine lv_tableOut (tgt := 52) hx hb dX3_mixed_1 (Or.inr (by rw [nI_toInt (by omega)]; omega)) (by decide) ?_
  refine lv_iload_n hx hb dX3_mixed_52 rfl (lv_at hl 0 rfl) ?_
  refine lv_iload_n hx hb dX3_mixed_53 rfl (lv_at hl 1 rfl) ?_
  refine lv_imul hx hb dX3_mixed_54 ?_
  refine lv_bipush (v := nI 100) hx hb dX3_mixed_55 (by decide) ?_
  refine lv_idiv hx hb dX3_mixed_57 (by decide) ?_
  exact W.iret (v := (x * y) / (nI 100)) hx hb hr (fun t ht _ => ⟨(x * y) / (nI 100), rfl, by (simp [mixV, e1_0, e1_1, e1_2, e1_3]), ht⟩) (fun q hq => absurd hq List.not_mem_nil) dX3_mixed_58

set_option maxHeartbeats 4000000 in
set_option maxRecDepth 100000 in
theorem conX3_setOrNull (l : Launch) (D : va_G) (T : Nat → ClassId) (ad : Nat → Nat) (F V : Nat → Nat → Int32) (sr : SRs) (C : Nat → Int32) (k : Nat) (hk : k < 8) : Met l yX3_setOrNull wsX3_setOrNull ({ frames := 0, cells := 0, slots := 0, locals := 0 }) (cP D T [.ref (ad 0), .int (nI k)] (fun H => PLW D T ad F V sr C H)) (va_Sr (fun r => r = ad (4 + k)) (fun k => .ref k)) 0 0 (fun _ => False) := by
  refine Met.ofW (cc := cX3_setOrNull) (maxL := 2) (ret := (some (.object "PuddingstoneLine$GrainSet"))) (by decide) rfl ?_
  intro p e s m args below meth c s₁ B hml hv9
  obtain ⟨rfl, hK, hw⟩ := hv9
  have hx := B.exec
  have hb := B.bytes
  have hr := B.returns
  have hts := atoms_spec (ws := wsX3_setOrNull) B.pre
  have hown : s.vm.findClass RX3 = some m.cls := findClass_of_methodNamed B.named
  have hlocks := B.notSynchronized
  have hin3 : ∀ w ∈ wsX30, w ∈ wsX3_setOrNull := by decide +kernel
  have hl := lv_entry ([.ref (ad 0), .int (nI k)]) (n := 2) (Nat.le_of_ble_eq_true rfl)
  rw [lg_entry_eq]
  generalize (lg_sl ([.ref (ad 0), .int (nI k)]) ++ List.replicate (2 - (lg_sl ([.ref (ad 0), .int (nI k)])).length) Slot.unset).toArray = ls at hl ⊢
  have hl : lv_has ls 2 [(0, .ref (ad 0)), (1, .int (nI k))] := hl
  refine lv_iload_n hx hb dX3_setOrNull_0 rfl (lv_at hl 1 rfl) ?_
  refine lv_if_lt (tgt := 22) hx hb dX3_setOrNull_1 (by decide) (fun c1 => ?_) (fun c1 => ?_)
  · skip
    have c1 : k < 0 := (nc_lt (a := k) (b := 0) (by omega) (by omega)).mp c1
    omega
  · skip
    have c1 : ¬ (k < 0) := fun q9 => c1 ((nc_lt (a := k) (b := 0) (by omega) (by omega)).mpr q9)
    refine lv_iload_n hx hb dX3_setOrNull_4 rfl (lv_at hl 1 rfl) ?_
    refine lv_aload_n hx hb dX3_setOrNull_5 rfl (lv_at hl 0 rfl) ?_
    refine q_get (v := .ref (ad 1)) hx hb hts hin3 hown hK hw.o rfl 0 (by decide) (hts (.fieldLink RX3 11 "PuddingstoneLine" "sets" "[LPuddingstoneLine$GrainSet;") (by decide +kernel)) (fun _ h9 => h9) rfl dX3_setOrNull_6 ?_
    refine q_len hx hb hK 2 rfl hw.sa dX3_setOrNull_9 ?_
    refine lv_icmp_ge (tgt := 22) hx hb dX3_setOrNull_10 (by decide) (fun c10 => ?_) (fun c10 => ?_)
    · skip
      have c10 : 8 ≤ k := (nc_le (a := 8) (b := k) (by omega) (by omega)).mp c10
      omega
    · skip
      have c10 : ¬ (8 ≤ k) := fun q9 => c10 ((nc_le (a := 8) (b := k) (by omega) (by omega)).mpr q9)
      refine lv_aload_n hx hb dX3_setOrNull_13 rfl (lv_at hl 0 rfl) ?_
      refine q_get (v := .ref (ad 1)) hx hb hts hin3 hown hK hw.o rfl 0 (by decide) (hts (.fieldLink RX3 11 "PuddingstoneLine" "sets" "[LPuddingstoneLine$GrainSet;") (by decide +kernel)) (fun _ h9 => h9) rfl dX3_setOrNull_14 ?_
      refine lv_iload_n hx hb dX3_setOrNull_17 rfl (lv_at hl 1 rfl) ?_
      refine q_aald hx hb hK 2 rfl rfl hw.sa k (rfl) (by omega) (by decide) (b := ad (4 + k)) rfl dX3_setOrNull_18 ?_
      refine lv_goto (tgt := 23) hx hb dX3_setOrNull_19 (by decide) ?_
      exact W.aret (v := .ref (ad (4 + k))) hx hb hr (Or.inl ⟨_, rfl⟩) (Or.inr ⟨_, rfl⟩) (fun t ht _ => ⟨ad (4 + k), rfl, by rfl, ht⟩) (fun q hq => absurd hq List.not_mem_nil) dX3_setOrNull_23

set_option maxHeartbeats 4000000 in
set_option maxRecDepth 100000 in
theorem conX3_setAt (l : Launch) (D : va_G) (T : Nat → ClassId) (ad : Nat → Nat) (F V : Nat → Nat → Int32) (sr : SRs) (C : Nat → Int32) (k : Nat) (hk : k < 8) : Met l yX3_setAt wsX3_setAt ({ frames := 1, cells := 0, slots := 0, locals := 21 }) (cP D T [.ref (ad 0), .int (nI k)] (fun H => PLW D T ad F V sr C H)) (va_Sr (fun r => r = ad (4 + k)) (fun k => .ref k)) 0 0 (fun _ => False) := by
  refine Met.ofW (cc := cX3_setAt) (maxL := 3) (ret := (some (.object "PuddingstoneLine$GrainSet"))) (by decide) rfl ?_
  intro p e s m args below meth c s₁ B hml hv9
  obtain ⟨rfl, hK, hw⟩ := hv9
  have hx := B.exec
  have hb := B.bytes
  have hr := B.returns
  have hts := atoms_spec (ws := wsX3_setAt) B.pre
  have hown : s.vm.findClass RX3 = some m.cls := findClass_of_methodNamed B.named
  have hlocks := B.notSynchronized
  have hl := lv_entry ([.ref (ad 0), .int (nI k)]) (n := 3) (Nat.le_of_ble_eq_true rfl)
  rw [lg_entry_eq]
  generalize (lg_sl ([.ref (ad 0), .int (nI k)]) ++ List.replicate (3 - (lg_sl ([.ref (ad 0), .int (nI k)])).length) Slot.unset).toArray = ls at hl ⊢
  have hl : lv_has ls 3 [(0, .ref (ad 0)), (1, .int (nI k))] := hl
  refine lv_aload_n hx hb dX3_setAt_0 rfl (lv_at hl 0 rfl) ?_
  refine lv_iload_n hx hb dX3_setAt_1 rfl (lv_at hl 1 rfl) ?_
  refine va_csr (ad := fun k => .ref k) (va_runV (As := [.int (nI k)]) (rest := []) ⟨hx, hb, hml, hown, hts⟩ (conX3_setOrNull l D T ad F V sr C k (by omega)) (cwV 1 hts gX3_setAt_X3_setOrNull rfl rfl rfl (by decide +kernel) ⟨Nat.le_of_ble_eq_true rfl, Nat.le_of_ble_eq_true rfl⟩) (preV hK hw.o rfl hw) rfl rfl hl.1 rfl (lv_room (Nat.le_of_ble_eq_true rfl)) dX3_setAt_2 ⟨Nat.le_of_ble_eq_true rfl, Nat.le_of_ble_eq_true rfl⟩).run (fun r1 hr1 => ?_)
  subst hr1
  refine lv_astore_n (lv' := [(2, .ref (ad (4 + k))), (0, .ref (ad 0)), (1, .int (nI k))]) hx hb dX3_setAt_5 rfl hl (by decide) rfl (fun ls hl => ?_)
  refine lv_aload_n hx hb dX3_setAt_6 rfl (lv_at hl 0 rfl) ?_
  refine lv_ifnonnull (tgt := 20) hx hb dX3_setAt_7 (by decide) ?_
  refine lv_aload_n hx hb dX3_setAt_20 rfl (lv_at hl 0 rfl) ?_
  exact W.aret (v := .ref (ad (4 + k))) hx hb hr (Or.inl ⟨_, rfl⟩) (Or.inr ⟨_, rfl⟩) (fun t ht _ => ⟨ad (4 + k), rfl, by rfl, ht⟩) (fun q hq => absurd hq List.not_mem_nil) dX3_setAt_21

set_option maxHeartbeats 4000000 in
set_option maxRecDepth 100000 in
theorem conX3_functionAt (l : Launch) (D : va_G) (T : Nat → ClassId) (ad : Nat → Nat) (F V : Nat → Nat → Int32) (sr : SRs) (C : Nat → Int32) (k : Nat) (hk : k < 5) : Met l yX3_functionAt wsX3_functionAt ({ frames := 0, cells := 0, slots := 0, locals := 0 }) (cP D T [.ref (ad 0), .int (nI k)] (fun H => PLW D T ad F V sr C H)) (va_Sr (fun r => r = ad (22 + k)) (fun k => .ref k)) 0 0 (fun _ => False) := by
  refine Met.ofW (cc := cX3_functionAt) (maxL := 3) (ret := (some (.object "PuddingstoneLine$StepFunction"))) (by decide) rfl ?_
  intro p e s m args below meth c s₁ B hml hv9
  obtain ⟨rfl, hK, hw⟩ := hv9
  have hx := B.exec
  have hb := B.bytes
  have hr := B.returns
  have hts := atoms_spec (ws := wsX3_functionAt) B.pre
  have hown : s.vm.findClass RX3 = some m.cls := findClass_of_methodNamed B.named
  have hlocks := B.notSynchronized
  have hin3 : ∀ w ∈ wsX30, w ∈ wsX3_functionAt := by decide +kernel
  have hl := lv_entry ([.ref (ad 0), .int (nI k)]) (n := 3) (Nat.le_of_ble_eq_true rfl)
  rw [lg_entry_eq]
  generalize (lg_sl ([.ref (ad 0), .int (nI k)]) ++ List.replicate (3 - (lg_sl ([.ref (ad 0), .int (nI k)])).length) Slot.unset).toArray = ls at hl ⊢
  have hl : lv_has ls 3 [(0, .ref (ad 0)), (1, .int (nI k))] := hl
  refine lv_iload_n hx hb dX3_functionAt_0 rfl (lv_at hl 1 rfl) ?_
  refine lv_if_lt (tgt := 22) hx hb dX3_functionAt_1 (by decide) (fun c1 => ?_) (fun c1 => ?_)
  · skip
    have c1 : k < 0 := (nc_lt (a := k) (b := 0) (by omega) (by omega)).mp c1
    omega
  · skip
    have c1 : ¬ (k < 0) := fun q9 => c1 ((nc_lt (a := k) (b := 0) (by omega) (by omega)).mpr q9)
    refine lv_iload_n hx hb dX3_functionAt_4 rfl (lv_at hl 1 rfl) ?_
    refine lv_aload_n hx hb dX3_functionAt_5 rfl (lv_at hl 0 rfl) ?_
    refine q_get (v := .ref (ad 2)) hx hb hts hin3 hown hK hw.o rfl 1 (by decide) (hts (.fieldLink RX3 17 "PuddingstoneLine" "functions" "[LPuddingstoneLine$StepFunction;") (by decide +kernel)) (fun _ h9 => h9) rfl dX3_functionAt_6 ?_
    refine q_len hx hb hK 3 rfl hw.fa dX3_functionAt_9 ?_
    refine lv_icmp_ge (tgt := 22) hx hb dX3_functionAt_10 (by decide) (fun c10 => ?_) (fun c10 => ?_)
    · skip
      have c10 : 5 ≤ k := (nc_le (a := 5) (b := k) (by omega) (by omega)).mp c10
      omega
    · skip
      have c10 : ¬ (5 ≤ k) := fun q9 => c10 ((nc_le (a := 5) (b := k) (by omega) (by omega)).mpr q9)
      refine lv_aload_n hx hb dX3_functionAt_13 rfl (lv_at hl 0 rfl) ?_
      refine q_get (v := .ref (ad 2)) hx hb hts hin3 hown hK hw.o rfl 1 (by decide) (hts (.fieldLink RX3 17 "PuddingstoneLine" "functions" "[LPuddingstoneLine$StepFunction;") (by decide +kernel)) (fun _ h9 => h9) rfl dX3_functionAt_14 ?_
      refine lv_iload_n hx hb dX3_functionAt_17 rfl (lv_at hl 1 rfl) ?_
      refine q_aald hx hb hK 3 rfl rfl hw.fa k (rfl) (by omega) (by decide) (b := ad (22 + k)) rfl dX3_functionAt_18 ?_
      refine lv_goto (tgt := 23) hx hb dX3_functionAt_19 (by decide) ?_
      refine lv_astore_n (lv' := [(2, .ref (ad (22 + k))), (0, .ref (ad 0)), (1, .int (nI k))]) hx hb dX3_functionAt_23 rfl hl (by decide) rfl (fun ls hl => ?_)
      refine lv_aload_n hx hb dX3_functionAt_24 rfl (lv_at hl 0 rfl) ?_
      refine lv_ifnonnull (tgt := 38) hx hb dX3_functionAt_25 (by decide) ?_
      refine lv_aload_n hx hb dX3_functionAt_38 rfl (lv_at hl 0 rfl) ?_
      exact W.aret (v := .ref (ad (22 + k))) hx hb hr (Or.inl ⟨_, rfl⟩) (Or.inr ⟨_, rfl⟩) (fun t ht _ => ⟨ad (22 + k), rfl, by rfl, ht⟩) (fun q hq => absurd hq List.not_mem_nil) dX3_functionAt_39
