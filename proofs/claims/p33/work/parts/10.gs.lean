set_option maxHeartbeats 4000000 in
set_option maxRecDepth 100000 in
theorem conX0_holds (l : Launch) (D : va_G) (T : Nat → ClassId) (h a : Nat) (f : Nat → Int32) (g : Int32) : Met l yX0_holds wsX0_holds ({ frames := 0, cells := 0, slots := 0, locals := 0 }) (cP D T [.ref h, .int g] (fun H => GS D T h a f H)) (vp_Si (fun r => r = holdZ f g)) 0 0 (fun _ => False) := by
  refine Met.ofW (cc := cX0_holds) (maxL := 2) (ret := (some .boolean)) (by decide) rfl ?_
  intro p e s m args below meth c s₁ B hml hv9
  obtain ⟨rfl, hK, hh, ha, hne⟩ := hv9
  have hx := B.exec
  have hb := B.bytes
  have hr := B.returns
  have hts := atoms_spec (ws := wsX0_holds) B.pre
  have hown : s.vm.findClass RX0 = some m.cls := findClass_of_methodNamed B.named
  have hlocks := B.notSynchronized
  have hin0 : ∀ w ∈ wsX00, w ∈ wsX0_holds := by decide +kernel
  have hl := lv_entry ([.ref h, .int g]) (n := 2) (Nat.le_of_ble_eq_true rfl)
  rw [lg_entry_eq]
  generalize (lg_sl ([.ref h, .int g]) ++ List.replicate (2 - (lg_sl ([.ref h, .int g])).length) Slot.unset).toArray = ls at hl ⊢
  have hl : lv_has ls 2 [(0, .ref h), (1, .int g)] := hl
  refine lv_iload_n hx hb dX0_holds_0 rfl (lv_at hl 1 rfl) ?_
  refine lv_if_lt (tgt := 26) hx hb dX0_holds_1 (by decide) (fun c1 => ?_) (fun c1 => ?_)
  · skip
    refine lv_iconst (v := nI 0) hx hb dX0_holds_26 (by decide) ?_
    exact W.zret (v := nI 0) hx hb hr (rfl) (fun t ht _ => ⟨nI 0, rfl, by simp [holdZ, c1], ht⟩) (fun q hq => absurd hq List.not_mem_nil) dX0_holds_27
  · skip
    refine lv_iload_n hx hb dX0_holds_4 rfl (lv_at hl 1 rfl) ?_
    refine lv_aload_n hx hb dX0_holds_5 rfl (lv_at hl 0 rfl) ?_
    refine q_get (v := .ref a) hx hb hts hin0 hown hK hh rfl 0 (by decide) (hts (.fieldLink RX0 9 "PuddingstoneLine$GrainSet" "grains" "[Z") (by decide +kernel)) (fun _ h9 => h9) rfl dX0_holds_6 ?_
    refine q_len hx hb hK 0 rfl ha dX0_holds_9 ?_
    refine lv_icmp_ge (tgt := 26) hx hb dX0_holds_10 (by decide) (fun c10 => ?_) (fun c10 => ?_)
    · skip
      refine lv_iconst (v := nI 0) hx hb dX0_holds_26 (by decide) ?_
      exact W.zret (v := nI 0) hx hb hr (rfl) (fun t ht _ => ⟨nI 0, rfl, by simp [holdZ, c1, c10], ht⟩) (fun q hq => absurd hq List.not_mem_nil) dX0_holds_27
    · skip
      refine lv_aload_n hx hb dX0_holds_13 rfl (lv_at hl 0 rfl) ?_
      refine q_get (v := .ref a) hx hb hts hin0 hown hK hh rfl 0 (by decide) (hts (.fieldLink RX0 9 "PuddingstoneLine$GrainSet" "grains" "[Z") (by decide +kernel)) (fun _ h9 => h9) rfl dX0_holds_14 ?_
      refine lv_iload_n hx hb dX0_holds_17 rfl (lv_at hl 1 rfl) ?_
      refine q_zald hx hb hK ha g.toNatClampNeg (in_eq c1) (in_lt c1 c10) (by decide) dX0_holds_18 ?_
      refine lv_if_eq (tgt := 26) hx hb dX0_holds_19 (by decide) (fun c19 => ?_) (fun c19 => ?_)
      · skip
        refine lv_iconst (v := nI 0) hx hb dX0_holds_26 (by decide) ?_
        exact W.zret (v := nI 0) hx hb hr (rfl) (fun t ht _ => ⟨nI 0, rfl, by simp [holdZ, c1, c10, c19], ht⟩) (fun q hq => absurd hq List.not_mem_nil) dX0_holds_27
      · skip
        refine lv_iconst (v := nI 1) hx hb dX0_holds_22 (by decide) ?_
        refine lv_goto (tgt := 27) hx hb dX0_holds_23 (by decide) ?_
        exact W.zret (v := nI 1) hx hb hr (rfl) (fun t ht _ => ⟨nI 1, rfl, by simp [holdZ, c1, c10, c19], ht⟩) (fun q hq => absurd hq List.not_mem_nil) dX0_holds_27

set_option maxHeartbeats 4000000 in
set_option maxRecDepth 100000 in
theorem conX0_write (l : Launch) (D : va_G) (T : Nat → ClassId) (h a : Nat) (f : Nat → Int32) (g v : Int32) (hv : vp_nar .boolean v = v) : Met l yX0_write wsX0_write ({ frames := 0, cells := 0, slots := 0, locals := 0 }) (cP D T [.ref h, .int g, .int v] (fun H => GS D T h a f H)) (va_Qv (fun (_ : Unit) => True) (fun _ t => pAt D t.heap a (eN (T 0) 201 (wrZ f g v))) (fun q : Nat => q = a)) 0 0 (fun q : Nat => q = a) := by
  refine Met.ofW (cc := cX0_write) (maxL := 3) (ret := none) (by decide) rfl ?_
  intro p e s m args below meth c s₁ B hml hv9
  obtain ⟨rfl, hK, hh, ha, hne⟩ := hv9
  have hx := B.exec
  have hb := B.bytes
  have hr := B.returns
  have hts := atoms_spec (ws := wsX0_write) B.pre
  have hown : s.vm.findClass RX0 = some m.cls := findClass_of_methodNamed B.named
  have hlocks := B.notSynchronized
  have hin0 : ∀ w ∈ wsX00, w ∈ wsX0_write := by decide +kernel
  generalize hAe : (fun q : Nat => q = a) = A
  have hA_a : A a := by subst hAe; first | rfl | exact Or.inl rfl | exact Or.inr rfl | (simp; done)
  have hS : va_S A s.heap s.heap [] := va_S.rf
  have hl := lv_entry ([.ref h, .int g, .int v]) (n := 3) (Nat.le_of_ble_eq_true rfl)
  rw [lg_entry_eq]
  generalize (lg_sl ([.ref h, .int g, .int v]) ++ List.replicate (3 - (lg_sl ([.ref h, .int g, .int v])).length) Slot.unset).toArray = ls at hl ⊢
  have hl : lv_has ls 3 [(0, .ref h), (1, .int g), (2, .int v)] := hl
  refine lv_iload_n hx hb dX0_write_0 rfl (lv_at hl 1 rfl) ?_
  refine lv_if_lt (tgt := 20) hx hb dX0_write_1 (by decide) (fun c1 => ?_) (fun c1 => ?_)
  · skip
    exact W.vret hx hb hr (fun t ht _ => ⟨⟨(), rfl, trivial, by dsimp only; rw [ht]; exact (by simp only [wrZ, c1, if_true, if_false]; exact ha)⟩, hS.F ht⟩) hS.2.2 dX0_write_20
  · skip
    refine lv_iload_n hx hb dX0_write_4 rfl (lv_at hl 1 rfl) ?_
    refine lv_aload_n hx hb dX0_write_5 rfl (lv_at hl 0 rfl) ?_
    refine q_get (v := .ref a) hx hb hts hin0 hown hK hh rfl 0 (by decide) (hts (.fieldLink RX0 9 "PuddingstoneLine$GrainSet" "grains" "[Z") (by decide +kernel)) (fun _ h9 => h9) rfl dX0_write_6 ?_
    refine q_len hx hb hK 0 rfl ha dX0_write_9 ?_
    refine lv_icmp_ge (tgt := 20) hx hb dX0_write_10 (by decide) (fun c10 => ?_) (fun c10 => ?_)
    · skip
      exact W.vret hx hb hr (fun t ht _ => ⟨⟨(), rfl, trivial, by dsimp only; rw [ht]; exact (by simp only [wrZ, c1, c10, if_true, if_false]; exact ha)⟩, hS.F ht⟩) hS.2.2 dX0_write_20
    · skip
      refine lv_aload_n hx hb dX0_write_13 rfl (lv_at hl 0 rfl) ?_
      refine q_get (v := .ref a) hx hb hts hin0 hown hK hh rfl 0 (by decide) (hts (.fieldLink RX0 9 "PuddingstoneLine$GrainSet" "grains" "[Z") (by decide +kernel)) (fun _ h9 => h9) rfl dX0_write_14 ?_
      refine lv_iload_n hx hb dX0_write_17 rfl (lv_at hl 1 rfl) ?_
      refine lv_iload_n hx hb dX0_write_18 rfl (lv_at hl 2 rfl) ?_
      refine q_zast hx hb hK ha g.toNatClampNeg (in_eq c1) (in_lt c1 c10) (by decide) (hv) hS (hA_a) dX0_write_19 (fun H1 locs1 hw9 hz oq hS => ?_)
      replace hh := hh.ne oq (hne)
      have ha := hw9
      exact W.vret hx hb hr (fun t ht _ => ⟨⟨(), rfl, trivial, by dsimp only; rw [ht]; exact (by simp only [wrZ, c1, c10, if_true, if_false]; exact ha)⟩, hS.F ht⟩) hS.2.2 dX0_write_20

set_option maxHeartbeats 4000000 in
set_option maxRecDepth 100000 in
theorem conX0_count (l : Launch) (D : va_G) (T : Nat → ClassId) (h a : Nat) (f : Nat → Int32) : Met l yX0_count wsX0_count ({ frames := 1, cells := 0, slots := 0, locals := 21 }) (cP D T [.ref h] (fun H => GS D T h a f H)) (vp_Si (fun r => r = cntZ f 201)) 0 0 (fun _ => False) := by
  refine Met.ofW (cc := cX0_count) (maxL := 3) (ret := (some .int)) (by decide) rfl ?_
  intro p e s m args below meth c s₁ B hml hv9
  obtain ⟨rfl, hK, hh, ha, hne⟩ := hv9
  have hx := B.exec
  have hb := B.bytes
  have hr := B.returns
  have hts := atoms_spec (ws := wsX0_count) B.pre
  have hown : s.vm.findClass RX0 = some m.cls := findClass_of_methodNamed B.named
  have hlocks := B.notSynchronized
  have hl := lv_entry ([.ref h]) (n := 3) (Nat.le_of_ble_eq_true rfl)
  rw [lg_entry_eq]
  generalize (lg_sl ([.ref h]) ++ List.replicate (3 - (lg_sl ([.ref h])).length) Slot.unset).toArray = ls at hl ⊢
  have hl : lv_has ls 3 [(0, .ref h)] := hl
  refine lv_iconst (v := nI 0) hx hb dX0_count_0 (by decide) ?_
  refine lv_istore_n (lv' := [(1, .int (nI 0)), (0, .ref h)]) hx hb dX0_count_1 rfl hl (by decide) rfl (fun ls hl => ?_)
  refine lv_iconst (v := nI 0) hx hb dX0_count_2 (by decide) ?_
  refine lv_istore_n (lv' := [(2, .int (nI 0)), (1, .int (nI 0)), (0, .ref h)]) hx hb dX0_count_3 rfl hl (by decide) rfl (fun ls hl => ?_)
  refine q_for (fun (i : Nat) (H : Heap) (locs : List Loc) (ls : Array Slot) => H = s.heap ∧ locs = [] ∧ lv_has ls 3 [(2, .int (nI i)), (1, .int (cntZ f i)), (0, .ref h)]) (N := 201) 0 (by omega) ?_ ?_ ?_
  · skip
    have e1 : nI 0 = cntZ f 0 := by first | rfl | simp [cntZ_s, ]
    exact ⟨rfl, rfl, lv_sub (lv_ex hl 1 rfl (congrArg Value.int e1)) [0, 1, 2] rfl⟩
  · skip
    intro i H locs ls hi9 hin9 hnext
    obtain ⟨rfl, rfl, hl⟩ := hin9
    refine lv_iload_n hx hb dX0_count_4 rfl (lv_at hl 0 rfl) ?_
    refine lv_sipush (v := nI 201) hx hb dX0_count_5 (by decide) ?_
    refine lv_icmp_ge (tgt := 28) hx hb dX0_count_8 (by decide) (fun c8 => ?_) (fun c8 => ?_)
    · skip
      have c8 : 201 ≤ i := (nc_le (a := 201) (b := i) (by omega) (by omega)).mp c8
      omega
    · skip
      have c8 : ¬ (201 ≤ i) := fun q9 => c8 ((nc_le (a := 201) (b := i) (by omega) (by omega)).mpr q9)
      refine lv_aload_n hx hb dX0_count_11 rfl (lv_at hl 2 rfl) ?_
      refine lv_iload_n hx hb dX0_count_12 rfl (lv_at hl 0 rfl) ?_
      refine vp_callSi (va_runV (As := [.int (nI i)]) (rest := []) ⟨hx, hb, hml, hown, hts⟩ (conX0_holds l D T h a f (nI i)) (cwV 1 hts gX0_count_X0_holds rfl rfl rfl (by decide +kernel) ⟨Nat.le_of_ble_eq_true rfl, Nat.le_of_ble_eq_true rfl⟩) (preV hK hh rfl ⟨hh, ha, hne⟩) rfl rfl hl.1 rfl (lv_room (Nat.le_of_ble_eq_true rfl)) dX0_count_13 ⟨Nat.le_of_ble_eq_true rfl, Nat.le_of_ble_eq_true rfl⟩).run (fun r2 hr2 => ?_)
      subst hr2
      refine lv_if_eq (tgt := 22) hx hb dX0_count_16 (by decide) (fun c16 => ?_) (fun c16 => ?_)
      · skip
        refine lv_iinc (v := nI (i + 1)) (lv' := [(2, .int (nI (i + 1))), (1, .int (cntZ f i)), (0, .ref h)]) hx hb dX0_count_22 hl (k := 0) rfl (inc_1 _) (by decide) rfl (fun ls hl => ?_)
        refine lv_goto (tgt := 4) hx hb dX0_count_25 (by decide) ?_
        have e3 : cntZ f i = cntZ f (i + 1) := by first | rfl | simp [cntZ_s, c8, c16]
        exact hnext _ _ _ ⟨rfl, rfl, lv_sub (lv_ex hl 1 rfl (congrArg Value.int e3)) [0, 1, 2] rfl⟩
      · skip
        refine lv_iinc (v := (cntZ f i) + 1) (lv' := [(1, .int ((cntZ f i) + 1)), (2, .int (nI i)), (0, .ref h)]) hx hb dX0_count_19 hl (k := 1) rfl (rfl) (by decide) rfl (fun ls hl => ?_)
        refine lv_iinc (v := nI (i + 1)) (lv' := [(2, .int (nI (i + 1))), (1, .int ((cntZ f i) + 1)), (0, .ref h)]) hx hb dX0_count_22 hl (k := 1) rfl (inc_1 _) (by decide) rfl (fun ls hl => ?_)
        refine lv_goto (tgt := 4) hx hb dX0_count_25 (by decide) ?_
        have e4 : (cntZ f i) + 1 = cntZ f (i + 1) := by first | rfl | simp [cntZ_s, c8, c16]
        exact hnext _ _ _ ⟨rfl, rfl, lv_sub (lv_ex hl 1 rfl (congrArg Value.int e4)) [0, 1, 2] rfl⟩
  · skip
    intro H locs ls hin9
    obtain ⟨rfl, rfl, hl⟩ := hin9
    refine lv_iload_n hx hb dX0_count_4 rfl (lv_at hl 0 rfl) ?_
    refine lv_sipush (v := nI 201) hx hb dX0_count_5 (by decide) ?_
    refine lv_icmp_ge (tgt := 28) hx hb dX0_count_8 (by decide) (fun c8 => ?_) (fun c8 => ?_)
    · skip
      have c8 : 201 ≤ 201 := (nc_le (a := 201) (b := 201) (by omega) (by omega)).mp c8
      refine lv_iload_n hx hb dX0_count_28 rfl (lv_at hl 1 rfl) ?_
      exact W.iret (v := cntZ f 201) hx hb hr (fun t ht _ => ⟨cntZ f 201, rfl, by rfl, ht⟩) (fun q hq => absurd hq List.not_mem_nil) dX0_count_29
    · skip
      have c8 : ¬ (201 ≤ 201) := fun q9 => c8 ((nc_le (a := 201) (b := 201) (by omega) (by omega)).mpr q9)
      omega

set_option maxHeartbeats 4000000 in
set_option maxRecDepth 100000 in
theorem conX0_length (l : Launch) (D : va_G) (T : Nat → ClassId) (h a : Nat) (f : Nat → Int32) : Met l yX0_length wsX0_length ({ frames := 1, cells := 0, slots := 0, locals := 21 }) (cP D T [.ref h] (fun H => GS D T h a f H)) (vp_Si (fun r => r = lenZ f 100)) 0 0 (fun _ => False) := by
  refine Met.ofW (cc := cX0_length) (maxL := 3) (ret := (some .int)) (by decide) rfl ?_
  intro p e s m args below meth c s₁ B hml hv9
  obtain ⟨rfl, hK, hh, ha, hne⟩ := hv9
  have hx := B.exec
  have hb := B.bytes
  have hr := B.returns
  have hts := atoms_spec (ws := wsX0_length) B.pre
  have hown : s.vm.findClass RX0 = some m.cls := findClass_of_methodNamed B.named
  have hlocks := B.notSynchronized
  have hl := lv_entry ([.ref h]) (n := 3) (Nat.le_of_ble_eq_true rfl)
  rw [lg_entry_eq]
  generalize (lg_sl ([.ref h]) ++ List.replicate (3 - (lg_sl ([.ref h])).length) Slot.unset).toArray = ls at hl ⊢
  have hl : lv_has ls 3 [(0, .ref h)] := hl
  refine lv_iconst (v := nI 0) hx hb dX0_length_0 (by decide) ?_
  refine lv_istore_n (lv' := [(1, .int (nI 0)), (0, .ref h)]) hx hb dX0_length_1 rfl hl (by decide) rfl (fun ls hl => ?_)
  refine lv_iconst (v := nI 1) hx hb dX0_length_2 (by decide) ?_
  refine lv_istore_n (lv' := [(2, .int (nI 1)), (1, .int (nI 0)), (0, .ref h)]) hx hb dX0_length_3 rfl hl (by decide) rfl (fun ls hl => ?_)
  refine q_for (fun (i : Nat) (H : Heap) (locs : List Loc) (ls : Array Slot) => H = s.heap ∧ locs = [] ∧ lv_has ls 3 [(2, .int (nI (2 * i + 1))), (1, .int (lenZ f i)), (0, .ref h)]) (N := 100) 0 (by omega) ?_ ?_ ?_
  · skip
    have e1 : nI 0 = lenZ f 0 := by first | rfl | simp [lenZ_s, ]
    exact ⟨rfl, rfl, lv_sub (lv_ex hl 1 rfl (congrArg Value.int e1)) [0, 1, 2] rfl⟩
  · skip
    intro i H locs ls hi9 hin9 hnext
    obtain ⟨rfl, rfl, hl⟩ := hin9
    refine lv_iload_n hx hb dX0_length_4 rfl (lv_at hl 0 rfl) ?_
    refine lv_sipush (v := nI 201) hx hb dX0_length_5 (by decide) ?_
    refine lv_icmp_ge (tgt := 28) hx hb dX0_length_8 (by decide) (fun c8 => ?_) (fun c8 => ?_)
    · skip
      have c8 : 201 ≤ 2 * i + 1 := (nc_le (a := 201) (b := 2 * i + 1) (by omega) (by omega)).mp c8
      omega
    · skip
      have c8 : ¬ (201 ≤ 2 * i + 1) := fun q9 => c8 ((nc_le (a := 201) (b := 2 * i + 1) (by omega) (by omega)).mpr q9)
      refine lv_aload_n hx hb dX0_length_11 rfl (lv_at hl 2 rfl) ?_
      refine lv_iload_n hx hb dX0_length_12 rfl (lv_at hl 0 rfl) ?_
      refine vp_callSi (va_runV (As := [.int (nI (2 * i + 1))]) (rest := []) ⟨hx, hb, hml, hown, hts⟩ (conX0_holds l D T h a f (nI (2 * i + 1))) (cwV 1 hts gX0_length_X0_holds rfl rfl rfl (by decide +kernel) ⟨Nat.le_of_ble_eq_true rfl, Nat.le_of_ble_eq_true rfl⟩) (preV hK hh rfl ⟨hh, ha, hne⟩) rfl rfl hl.1 rfl (lv_room (Nat.le_of_ble_eq_true rfl)) dX0_length_13 ⟨Nat.le_of_ble_eq_true rfl, Nat.le_of_ble_eq_true rfl⟩).run (fun r2 hr2 => ?_)
      subst hr2
      refine lv_if_eq (tgt := 22) hx hb dX0_length_16 (by decide) (fun c16 => ?_) (fun c16 => ?_)
      · skip
        refine lv_iinc (v := nI ((2 * i + 1) + 2)) (lv' := [(2, .int (nI ((2 * i + 1) + 2))), (1, .int (lenZ f i)), (0, .ref h)]) hx hb dX0_length_22 hl (k := 0) rfl (inc_2 _) (by decide) rfl (fun ls hl => ?_)
        refine lv_goto (tgt := 4) hx hb dX0_length_25 (by decide) ?_
        have e3 : nI ((2 * i + 1) + 2) = nI (2 * (i + 1) + 1) := by first | rfl | (congr 1; omega)
        have e4 : lenZ f i = lenZ f (i + 1) := by first | rfl | simp [lenZ_s, c8, c16]
        exact hnext _ _ _ ⟨rfl, rfl, lv_sub (lv_ex (lv_ex hl 0 rfl (congrArg Value.int e3)) 1 rfl (congrArg Value.int e4)) [0, 1, 2] rfl⟩
      · skip
        refine lv_iinc (v := (lenZ f i) + 1) (lv' := [(1, .int ((lenZ f i) + 1)), (2, .int (nI (2 * i + 1))), (0, .ref h)]) hx hb dX0_length_19 hl (k := 1) rfl (rfl) (by decide) rfl (fun ls hl => ?_)
        refine lv_iinc (v := nI ((2 * i + 1) + 2)) (lv' := [(2, .int (nI ((2 * i + 1) + 2))), (1, .int ((lenZ f i) + 1)), (0, .ref h)]) hx hb dX0_length_22 hl (k := 1) rfl (inc_2 _) (by decide) rfl (fun ls hl => ?_)
        refine lv_goto (tgt := 4) hx hb dX0_length_25 (by decide) ?_
        have e5 : nI ((2 * i + 1) + 2) = nI (2 * (i + 1) + 1) := by first | rfl | (congr 1; omega)
        have e6 : (lenZ f i) + 1 = lenZ f (i + 1) := by first | rfl | simp [lenZ_s, c8, c16]
        exact hnext _ _ _ ⟨rfl, rfl, lv_sub (lv_ex (lv_ex hl 0 rfl (congrArg Value.int e5)) 1 rfl (congrArg Value.int e6)) [0, 1, 2] rfl⟩
  · skip
    intro H locs ls hin9
    obtain ⟨rfl, rfl, hl⟩ := hin9
    refine lv_iload_n hx hb dX0_length_4 rfl (lv_at hl 0 rfl) ?_
    refine lv_sipush (v := nI 201) hx hb dX0_length_5 (by decide) ?_
    refine lv_icmp_ge (tgt := 28) hx hb dX0_length_8 (by decide) (fun c8 => ?_) (fun c8 => ?_)
    · skip
      have c8 : 201 ≤ 201 := (nc_le (a := 201) (b := 201) (by omega) (by omega)).mp c8
      refine lv_iload_n hx hb dX0_length_28 rfl (lv_at hl 1 rfl) ?_
      exact W.iret (v := lenZ f 100) hx hb hr (fun t ht _ => ⟨lenZ f 100, rfl, by rfl, ht⟩) (fun q hq => absurd hq List.not_mem_nil) dX0_length_29
    · skip
      have c8 : ¬ (201 ≤ 201) := fun q9 => c8 ((nc_le (a := 201) (b := 201) (by omega) (by omega)).mpr q9)
      omega

set_option maxHeartbeats 4000000 in
set_option maxRecDepth 100000 in
theorem conX0_fill (l : Launch) (D : va_G) (T : Nat → ClassId) (h a : Nat) (f : Nat → Int32) (lo hi : Nat) (last v : Int32) (hlo : lo < 2 ^ 30) (hhi : hi < 2 ^ 30) (hla : last.toInt + 1 = (hi : Int)) (hv : vp_nar .boolean v = v) : Met l yX0_fill wsX0_fill ({ frames := 1, cells := 0, slots := 0, locals := 22 }) (cP D T [.ref h, .int (nI lo), .int last, .int v] (fun H => GS D T h a f H)) (va_Qi (fun (r : Int32) (_ : Unit) => r = (fillS f v lo (min hi 201 - lo)).2) (fun _ t => pAt D t.heap a (eN (T 0) 201 (fillS f v lo (min hi 201 - lo)).1)) (fun q : Nat => q = a)) 0 0 (fun q : Nat => q = a) := by
  refine Met.ofW (cc := cX0_fill) (maxL := 6) (ret := (some .int)) (by decide) rfl ?_
  intro p e s m args below meth c s₁ B hml hv9
  obtain ⟨rfl, hK, hh, ha, hne⟩ := hv9
  have hx := B.exec
  have hb := B.bytes
  have hr := B.returns
  have hts := atoms_spec (ws := wsX0_fill) B.pre
  have hown : s.vm.findClass RX0 = some m.cls := findClass_of_methodNamed B.named
  have hlocks := B.notSynchronized
  generalize hAe : (fun q : Nat => q = a) = A
  have hA_a : A a := by subst hAe; first | rfl | exact Or.inl rfl | exact Or.inr rfl | (simp; done)
  have hS : va_S A s.heap s.heap [] := va_S.rf
  have hl := lv_entry ([.ref h, .int (nI lo), .int last, .int v]) (n := 6) (Nat.le_of_ble_eq_true rfl)
  rw [lg_entry_eq]
  generalize (lg_sl ([.ref h, .int (nI lo), .int last, .int v]) ++ List.replicate (6 - (lg_sl ([.ref h, .int (nI lo), .int last, .int v])).length) Slot.unset).toArray = ls at hl ⊢
  have hl : lv_has ls 6 [(0, .ref h), (1, .int (nI lo)), (2, .int last), (3, .int v)] := hl
  refine lv_iconst (v := nI 0) hx hb dX0_fill_0 (by decide) ?_
  refine lv_istore (lv' := [(4, .int (nI 0)), (0, .ref h), (1, .int (nI lo)), (2, .int last), (3, .int v)]) hx hb dX0_fill_1 hl (by decide) rfl (fun ls hl => ?_)
  refine lv_iload_n hx hb dX0_fill_3 rfl (lv_at hl 2 rfl) ?_
  refine lv_iconst (v := nI 0) hx hb dX0_fill_4 (by decide) ?_
  refine va_mmax hx hb (hml.trans hl.1.symm) hown (hts (.methodLink RX0 15 Lib.Math.max.name) (by decide +kernel)) (hts (.static Lib.Math.max.name) (by decide +kernel)) (hts (.initialized "java/lang/Math") (by decide +kernel)) (hts (.code Lib.Math.max.name Lib.Math.max.code 2 (some .int)) (by decide +kernel)) (Nat.le_of_ble_eq_true rfl) (Nat.le_of_ble_eq_true rfl) (Nat.le_of_ble_eq_true rfl) (Nat.le_of_ble_eq_true rfl) dX0_fill_5 ?_
  refine lv_istore (lv' := [(5, .int (jmax (nI lo) (nI 0))), (4, .int (nI 0)), (0, .ref h), (1, .int (nI lo)), (2, .int last), (3, .int v)]) hx hb dX0_fill_8 hl (by decide) rfl (fun ls hl => ?_)
  refine q_for (fun (i : Nat) (H : Heap) (locs : List Loc) (ls : Array Slot) => va_S A s.heap H locs ∧ lv_has ls 6 [(5, .int (nI (lo + i))), (4, .int ((fillS f v lo i).2)), (0, .ref h), (1, .int (nI lo)), (2, .int last), (3, .int v)] ∧ pAt D H h (eO 0 [.ref a]) ∧ pAt D H a (eN (T 0) 201 ((fillS f v lo i).1))) (N := (min hi 201 - lo)) 0 (by omega) ?_ ?_ ?_
  · skip
    have e1 : jmax (nI lo) (nI 0) = nI (lo + 0) := by first | rfl | exact jmax_0 (by omega)
    have e2 : nI 0 = (fillS f v lo 0).2 := by first | rfl | (rw [fillS_s, if_pos c31]; done) | (rw [fillS_s, if_neg c31]; done)
    have e3 : (eN (T 0) 201 f) = (eN (T 0) 201 ((fillS f v lo 0).1)) := by first | rfl | (rw [fillS_s, if_pos c31]; done) | (rw [fillS_s, if_neg c31]; done)
    exact ⟨hS, lv_sub (lv_ex (lv_ex hl 0 rfl (congrArg Value.int e1)) 1 rfl (congrArg Value.int e2)) [0, 1, 2, 3, 4, 5] rfl, hh, (by rw [← e3]; exact ha)⟩
  · skip
    intro i H locs ls hi9 hin9 hnext
    obtain ⟨hS, hl, hh, ha⟩ := hin9
    refine lv_iload hx hb dX0_fill_10 (lv_at hl 0 rfl) ?_
    refine lv_iload_n hx hb dX0_fill_12 rfl (lv_at hl 4 rfl) ?_
    refine lv_icmp_gt (tgt := 50) hx hb dX0_fill_13 (by decide) (fun c13 => ?_) (fun c13 => ?_)
    · skip
      have c13 : hi ≤ lo + i := (lt_pred hla (by omega)).mp c13
      omega
    · skip
      have c13 : ¬ (hi ≤ lo + i) := fun q9 => c13 ((lt_pred hla (by omega)).mpr q9)
      refine lv_iload hx hb dX0_fill_16 (lv_at hl 0 rfl) ?_
      refine lv_sipush (v := nI 201) hx hb dX0_fill_18 (by decide) ?_
      refine lv_icmp_ge (tgt := 50) hx hb dX0_fill_21 (by decide) (fun c21 => ?_) (fun c21 => ?_)
      · skip
        have c21 : 201 ≤ lo + i := (nc_le (a := 201) (b := lo + i) (by omega) (by omega)).mp c21
        omega
      · skip
        have c21 : ¬ (201 ≤ lo + i) := fun q9 => c21 ((nc_le (a := 201) (b := lo + i) (by omega) (by omega)).mpr q9)
        refine lv_aload_n hx hb dX0_fill_24 rfl (lv_at hl 2 rfl) ?_
        refine lv_iload hx hb dX0_fill_25 (lv_at hl 0 rfl) ?_
        refine vp_callSi (va_runV (As := [.int (nI (lo + i))]) (rest := []) ⟨hx, hb, hml, hown, hts⟩ (conX0_holds l D T h a ((fillS f v lo i).1) (nI (lo + i))) (cwV 1 hts gX0_fill_X0_holds rfl rfl rfl (by decide +kernel) ⟨Nat.le_of_ble_eq_true rfl, Nat.le_of_ble_eq_true rfl⟩) (preV hK hh rfl ⟨hh, ha, hne⟩) rfl rfl hl.1 rfl (lv_room (Nat.le_of_ble_eq_true rfl)) dX0_fill_27 ⟨Nat.le_of_ble_eq_true rfl, Nat.le_of_ble_eq_true rfl⟩).run (fun r4 hr4 => ?_)
        subst hr4
        refine lv_iload_n hx hb dX0_fill_30 rfl (lv_at hl 5 rfl) ?_
        refine lv_icmp_eq (tgt := 44) hx hb dX0_fill_31 (by decide) (fun c31 => ?_) (fun c31 => ?_)
        · skip
          refine lv_iinc (v := nI (lo + i + 1)) (lv' := [(5, .int (nI (lo + i + 1))), (4, .int ((fillS f v lo i).2)), (0, .ref h), (1, .int (nI lo)), (2, .int last), (3, .int v)]) hx hb dX0_fill_44 hl (k := 0) rfl (inc_1 _) (by decide) rfl (fun ls hl => ?_)
          refine lv_goto (tgt := 10) hx hb dX0_fill_47 (by decide) ?_
          have e5 : nI (lo + i + 1) = nI (lo + (i + 1)) := by first | rfl | exact jmax_0 (by omega)
          have e6 : (fillS f v lo i).2 = (fillS f v lo (i + 1)).2 := by first | rfl | (rw [fillS_s, if_pos c31]; done) | (rw [fillS_s, if_neg c31]; done)
          have e7 : (eN (T 0) 201 ((fillS f v lo i).1)) = (eN (T 0) 201 ((fillS f v lo (i + 1)).1)) := by first | rfl | (rw [fillS_s, if_pos c31]; done) | (rw [fillS_s, if_neg c31]; done)
          exact hnext _ _ _ ⟨hS, lv_sub (lv_ex (lv_ex hl 0 rfl (congrArg Value.int e5)) 1 rfl (congrArg Value.int e6)) [0, 1, 2, 3, 4, 5] rfl, hh, (by rw [← e7]; exact ha)⟩
        · skip
          refine lv_aload_n hx hb dX0_fill_34 rfl (lv_at hl 2 rfl) ?_
          refine lv_iload hx hb dX0_fill_35 (lv_at hl 0 rfl) ?_
          refine lv_iload_n hx hb dX0_fill_37 rfl (lv_at hl 5 rfl) ?_
          refine va_callv (va_runV (As := [.int (nI (lo + i)), .int v]) (rest := []) ⟨hx, hb, hml, hown, hts⟩ (conX0_write l D T h a ((fillS f v lo i).1) (nI (lo + i)) v (hv)) (cwV 2 hts gX0_fill_X0_write rfl rfl rfl (by decide +kernel) ⟨Nat.le_of_ble_eq_true rfl, Nat.le_of_ble_eq_true rfl⟩) (preV hK hh rfl ⟨hh, ha, hne⟩) rfl rfl hl.1 rfl (lv_room (Nat.le_of_ble_eq_true rfl)) dX0_fill_38 ⟨Nat.le_of_ble_eq_true rfl, Nat.le_of_ble_eq_true rfl⟩) hS (fun q _ h9 => (by have h8 : q = a := h9; rw [h8]; exact hA_a)) (fun q h9 => (by have h8 : q = a := h9; rw [h8]; exact hA_a)) (fun u t H1 locs1 ht hvm hw9 hB hz1 hk1 hS => ?_)
          try dsimp only at hB
          rw [ht] at hB
          replace hh := hh.kept (hk1 _ hh.lt (fun h9 => hne h9))
          have ha := hB
          refine lv_iinc (v := ((fillS f v lo i).2) + 1) (lv' := [(4, .int (((fillS f v lo i).2) + 1)), (5, .int (nI (lo + i))), (0, .ref h), (1, .int (nI lo)), (2, .int last), (3, .int v)]) hx hb dX0_fill_41 hl (k := 1) rfl (rfl) (by decide) rfl (fun ls hl => ?_)
          refine lv_iinc (v := nI (lo + i + 1)) (lv' := [(5, .int (nI (lo + i + 1))), (4, .int (((fillS f v lo i).2) + 1)), (0, .ref h), (1, .int (nI lo)), (2, .int last), (3, .int v)]) hx hb dX0_fill_44 hl (k := 1) rfl (inc_1 _) (by decide) rfl (fun ls hl => ?_)
          refine lv_goto (tgt := 10) hx hb dX0_fill_47 (by decide) ?_
          have e8 : nI (lo + i + 1) = nI (lo + (i + 1)) := by first | rfl | exact jmax_0 (by omega)
          have e9 : ((fillS f v lo i).2) + 1 = (fillS f v lo (i + 1)).2 := by first | rfl | (rw [fillS_s, if_pos c31]; done) | (rw [fillS_s, if_neg c31]; done)
          have e10 : (eN (T 0) 201 (wrZ ((fillS f v lo i).1) (nI (lo + i)) v)) = (eN (T 0) 201 ((fillS f v lo (i + 1)).1)) := by first | rfl | (rw [fillS_s, if_pos c31]; done) | (rw [fillS_s, if_neg c31]; done)
          exact hnext _ _ _ ⟨hS, lv_sub (lv_ex (lv_ex hl 0 rfl (congrArg Value.int e8)) 1 rfl (congrArg Value.int e9)) [0, 1, 2, 3, 4, 5] rfl, hh, (by rw [← e10]; exact ha)⟩
  · skip
    intro H locs ls hin9
    obtain ⟨hS, hl, hh, ha⟩ := hin9
    refine lv_iload hx hb dX0_fill_10 (lv_at hl 0 rfl) ?_
    refine lv_iload_n hx hb dX0_fill_12 rfl (lv_at hl 4 rfl) ?_
    refine lv_icmp_gt (tgt := 50) hx hb dX0_fill_13 (by decide) (fun c13 => ?_) (fun c13 => ?_)
    · skip
      have c13 : hi ≤ lo + (min hi 201 - lo) := (lt_pred hla (by omega)).mp c13
      refine lv_iload hx hb dX0_fill_50 (lv_at hl 1 rfl) ?_
      exact W.iret (v := (fillS f v lo (min hi 201 - lo)).2) hx hb hr (fun t ht _ => ⟨⟨(fillS f v lo (min hi 201 - lo)).2, (), rfl, by rfl, by dsimp only; rw [ht]; exact ha⟩, hS.F ht⟩) hS.2.2 dX0_fill_52
    · skip
      have c13 : ¬ (hi ≤ lo + (min hi 201 - lo)) := fun q9 => c13 ((lt_pred hla (by omega)).mpr q9)
      refine lv_iload hx hb dX0_fill_16 (lv_at hl 0 rfl) ?_
      refine lv_sipush (v := nI 201) hx hb dX0_fill_18 (by decide) ?_
      refine lv_icmp_ge (tgt := 50) hx hb dX0_fill_21 (by decide) (fun c21 => ?_) (fun c21 => ?_)
      · skip
        have c21 : 201 ≤ lo + (min hi 201 - lo) := (nc_le (a := 201) (b := lo + (min hi 201 - lo)) (by omega) (by omega)).mp c21
        refine lv_iload hx hb dX0_fill_50 (lv_at hl 1 rfl) ?_
        exact W.iret (v := (fillS f v lo (min hi 201 - lo)).2) hx hb hr (fun t ht _ => ⟨⟨(fillS f v lo (min hi 201 - lo)).2, (), rfl, by rfl, by dsimp only; rw [ht]; exact ha⟩, hS.F ht⟩) hS.2.2 dX0_fill_52
      · skip
        have c21 : ¬ (201 ≤ lo + (min hi 201 - lo)) := fun q9 => c21 ((nc_le (a := 201) (b := lo + (min hi 201 - lo)) (by omega) (by omega)).mpr q9)
        omega

set_option maxHeartbeats 4000000 in
set_option maxRecDepth 100000 in
theorem conX0_copyFrom (l : Launch) (D : va_G) (T : Nat → ClassId) (h a : Nat) (f : Nat → Int32) (h2 a2 : Nat) (g : Nat → Int32) : Met l yX0_copyFrom wsX0_copyFrom ({ frames := 1, cells := 0, slots := 0, locals := 22 }) (cP D T [.ref h, .ref h2] (fun H => GS D T h a f H ∧ GS D T h2 a2 g H ∧ h2 ≠ a ∧ a2 ≠ a)) (va_Qv (fun (_ : Unit) => True) (fun _ t => pAt D t.heap a (eN (T 0) 201 (copyZ f g 201))) (fun q : Nat => q = a)) 0 0 (fun q : Nat => q = a) := by
  refine Met.ofW (cc := cX0_copyFrom) (maxL := 3) (ret := none) (by decide) rfl ?_
  intro p e s m args below meth c s₁ B hml hv9
  obtain ⟨rfl, hK, ⟨hh, ha, hne⟩, ⟨gh, ga, gne⟩, hn2, hn3⟩ := hv9
  have hx := B.exec
  have hb := B.bytes
  have hr := B.returns
  have hts := atoms_spec (ws := wsX0_copyFrom) B.pre
  have hown : s.vm.findClass RX0 = some m.cls := findClass_of_methodNamed B.named
  have hlocks := B.notSynchronized
  generalize hAe : (fun q : Nat => q = a) = A
  have hA_a : A a := by subst hAe; first | rfl | exact Or.inl rfl | exact Or.inr rfl | (simp; done)
  have hS : va_S A s.heap s.heap [] := va_S.rf
  have hl := lv_entry ([.ref h, .ref h2]) (n := 3) (Nat.le_of_ble_eq_true rfl)
  rw [lg_entry_eq]
  generalize (lg_sl ([.ref h, .ref h2]) ++ List.replicate (3 - (lg_sl ([.ref h, .ref h2])).length) Slot.unset).toArray = ls at hl ⊢
  have hl : lv_has ls 3 [(0, .ref h), (1, .ref h2)] := hl
  refine lv_iconst (v := nI 0) hx hb dX0_copyFrom_0 (by decide) ?_
  refine lv_istore_n (lv' := [(2, .int (nI 0)), (0, .ref h), (1, .ref h2)]) hx hb dX0_copyFrom_1 rfl hl (by decide) rfl (fun ls hl => ?_)
  refine q_for (fun (i : Nat) (H : Heap) (locs : List Loc) (ls : Array Slot) => va_S A s.heap H locs ∧ lv_has ls 3 [(2, .int (nI i)), (0, .ref h), (1, .ref h2)] ∧ pAt D H h (eO 0 [.ref a]) ∧ pAt D H a (eN (T 0) 201 (copyZ f g i)) ∧ pAt D H h2 (eO 0 [.ref a2]) ∧ pAt D H a2 (eN (T 0) 201 g)) (N := 201) 0 (by omega) ?_ ?_ ?_
  · skip
    have e1 : (eN (T 0) 201 f) = (eN (T 0) 201 (copyZ f g 0)) := by rfl
    exact ⟨hS, lv_sub hl [0, 1, 2] rfl, hh, (by rw [← e1]; exact ha), gh, ga⟩
  · skip
    intro i H locs ls hi9 hin9 hnext
    obtain ⟨hS, hl, hh, ha, gh, ga⟩ := hin9
    refine lv_iload_n hx hb dX0_copyFrom_2 rfl (lv_at hl 0 rfl) ?_
    refine lv_sipush (v := nI 201) hx hb dX0_copyFrom_3 (by decide) ?_
    refine lv_icmp_ge (tgt := 25) hx hb dX0_copyFrom_6 (by decide) (fun c6 => ?_) (fun c6 => ?_)
    · skip
      have c6 : 201 ≤ i := (nc_le (a := 201) (b := i) (by omega) (by omega)).mp c6
      omega
    · skip
      have c6 : ¬ (201 ≤ i) := fun q9 => c6 ((nc_le (a := 201) (b := i) (by omega) (by omega)).mpr q9)
      refine lv_aload_n hx hb dX0_copyFrom_9 rfl (lv_at hl 1 rfl) ?_
      refine lv_iload_n hx hb dX0_copyFrom_10 rfl (lv_at hl 0 rfl) ?_
      refine lv_aload_n hx hb dX0_copyFrom_11 rfl (lv_at hl 2 rfl) ?_
      refine lv_iload_n hx hb dX0_copyFrom_12 rfl (lv_at hl 0 rfl) ?_
      refine vp_callSi (va_runV (As := [.int (nI i)]) (rest := [.int (nI i), .ref h]) ⟨hx, hb, hml, hown, hts⟩ (conX0_holds l D T h2 a2 g (nI i)) (cwV 1 hts gX0_copyFrom_X0_holds rfl rfl rfl (by decide +kernel) ⟨Nat.le_of_ble_eq_true rfl, Nat.le_of_ble_eq_true rfl⟩) (preV hK gh rfl ⟨gh, ga, gne⟩) rfl rfl hl.1 rfl (lv_room (Nat.le_of_ble_eq_true rfl)) dX0_copyFrom_13 ⟨Nat.le_of_ble_eq_true rfl, Nat.le_of_ble_eq_true rfl⟩).run (fun r2 hr2 => ?_)
      subst hr2
      refine va_callv (va_runV (As := [.int (nI i), .int (holdZ g (nI i))]) (rest := []) ⟨hx, hb, hml, hown, hts⟩ (conX0_write l D T h a (copyZ f g i) (nI i) (holdZ g (nI i)) (nar_holdZ _ _)) (cwV 2 hts gX0_copyFrom_X0_write rfl rfl rfl (by decide +kernel) ⟨Nat.le_of_ble_eq_true rfl, Nat.le_of_ble_eq_true rfl⟩) (preV hK hh rfl ⟨hh, ha, hne⟩) rfl rfl hl.1 rfl (lv_room (Nat.le_of_ble_eq_true rfl)) dX0_copyFrom_16 ⟨Nat.le_of_ble_eq_true rfl, Nat.le_of_ble_eq_true rfl⟩) hS (fun q _ h9 => (by have h8 : q = a := h9; rw [h8]; exact hA_a)) (fun q h9 => (by have h8 : q = a := h9; rw [h8]; exact hA_a)) (fun u t H1 locs1 ht hvm hw9 hB hz1 hk1 hS => ?_)
      try dsimp only at hB
      rw [ht] at hB
      replace hh := hh.kept (hk1 _ hh.lt (fun h9 => hne h9))
      replace gh := gh.kept (hk1 _ gh.lt (fun h9 => hn2 h9))
      replace ga := ga.kept (hk1 _ ga.lt (fun h9 => hn3 h9))
      have ha := hB
      refine lv_iinc (v := nI (i + 1)) (lv' := [(2, .int (nI (i + 1))), (0, .ref h), (1, .ref h2)]) hx hb dX0_copyFrom_19 hl (k := 0) rfl (inc_1 _) (by decide) rfl (fun ls hl => ?_)
      refine lv_goto (tgt := 2) hx hb dX0_copyFrom_22 (by decide) ?_
      have e3 : (eN (T 0) 201 (wrZ (copyZ f g i) (nI i) (holdZ g (nI i)))) = (eN (T 0) 201 (copyZ f g (i + 1))) := by rfl
      exact hnext _ _ _ ⟨hS, lv_sub hl [0, 1, 2] rfl, hh, (by rw [← e3]; exact ha), gh, ga⟩
  · skip
    intro H locs ls hin9
    obtain ⟨hS, hl, hh, ha, gh, ga⟩ := hin9
    refine lv_iload_n hx hb dX0_copyFrom_2 rfl (lv_at hl 0 rfl) ?_
    refine lv_sipush (v := nI 201) hx hb dX0_copyFrom_3 (by decide) ?_
    refine lv_icmp_ge (tgt := 25) hx hb dX0_copyFrom_6 (by decide) (fun c6 => ?_) (fun c6 => ?_)
    · skip
      have c6 : 201 ≤ 201 := (nc_le (a := 201) (b := 201) (by omega) (by omega)).mp c6
      exact W.vret hx hb hr (fun t ht _ => ⟨⟨(), rfl, trivial, by dsimp only; rw [ht]; exact ha⟩, hS.F ht⟩) hS.2.2 dX0_copyFrom_25
    · skip
      have c6 : ¬ (201 ≤ 201) := fun q9 => c6 ((nc_le (a := 201) (b := 201) (by omega) (by omega)).mpr q9)
      omega

set_option maxHeartbeats 4000000 in
set_option maxRecDepth 100000 in
theorem conX0_invert (l : Launch) (D : va_G) (T : Nat → ClassId) (h a : Nat) (f : Nat → Int32) : Met l yX0_invert wsX0_invert ({ frames := 1, cells := 0, slots := 0, locals := 22 }) (cP D T [.ref h] (fun H => GS D T h a f H)) (va_Qv (fun (_ : Unit) => True) (fun _ t => pAt D t.heap a (eN (T 0) 201 (invZ f 201))) (fun q : Nat => q = a)) 0 0 (fun q : Nat => q = a) := by
  refine Met.ofW (cc := cX0_invert) (maxL := 2) (ret := none) (by decide) rfl ?_
  intro p e s m args below meth c s₁ B hml hv9
  obtain ⟨rfl, hK, hh, ha, hne⟩ := hv9
  have hx := B.exec
  have hb := B.bytes
  have hr := B.returns
  have hts := atoms_spec (ws := wsX0_invert) B.pre
  have hown : s.vm.findClass RX0 = some m.cls := findClass_of_methodNamed B.named
  have hlocks := B.notSynchronized
  generalize hAe : (fun q : Nat => q = a) = A
  have hA_a : A a := by subst hAe; first | rfl | exact Or.inl rfl | exact Or.inr rfl | (simp; done)
  have hS : va_S A s.heap s.heap [] := va_S.rf
  have hl := lv_entry ([.ref h]) (n := 2) (Nat.le_of_ble_eq_true rfl)
  rw [lg_entry_eq]
  generalize (lg_sl ([.ref h]) ++ List.replicate (2 - (lg_sl ([.ref h])).length) Slot.unset).toArray = ls at hl ⊢
  have hl : lv_has ls 2 [(0, .ref h)] := hl
  refine lv_iconst (v := nI 0) hx hb dX0_invert_0 (by decide) ?_
  refine lv_istore_n (lv' := [(1, .int (nI 0)), (0, .ref h)]) hx hb dX0_invert_1 rfl hl (by decide) rfl (fun ls hl => ?_)
  refine q_for (fun (i : Nat) (H : Heap) (locs : List Loc) (ls : Array Slot) => va_S A s.heap H locs ∧ lv_has ls 2 [(1, .int (nI i)), (0, .ref h)] ∧ pAt D H h (eO 0 [.ref a]) ∧ pAt D H a (eN (T 0) 201 (invZ f i))) (N := 201) 0 (by omega) ?_ ?_ ?_
  · skip
    have e1 : (eN (T 0) 201 f) = (eN (T 0) 201 (invZ f 0)) := by first | rfl | (rw [invZ_s, if_pos c16]; done) | (rw [invZ_s, if_neg c16]; done)
    exact ⟨hS, lv_sub hl [0, 1] rfl, hh, (by rw [← e1]; exact ha)⟩
  · skip
    intro i H locs ls hi9 hin9 hnext
    obtain ⟨hS, hl, hh, ha⟩ := hin9
    refine lv_iload_n hx hb dX0_invert_2 rfl (lv_at hl 0 rfl) ?_
    refine lv_sipush (v := nI 201) hx hb dX0_invert_3 (by decide) ?_
    refine lv_icmp_ge (tgt := 33) hx hb dX0_invert_6 (by decide) (fun c6 => ?_) (fun c6 => ?_)
    · skip
      have c6 : 201 ≤ i := (nc_le (a := 201) (b := i) (by omega) (by omega)).mp c6
      omega
    · skip
      have c6 : ¬ (201 ≤ i) := fun q9 => c6 ((nc_le (a := 201) (b := i) (by omega) (by omega)).mpr q9)
      refine lv_aload_n hx hb dX0_invert_9 rfl (lv_at hl 1 rfl) ?_
      refine lv_iload_n hx hb dX0_invert_10 rfl (lv_at hl 0 rfl) ?_
      refine lv_aload_n hx hb dX0_invert_11 rfl (lv_at hl 1 rfl) ?_
      refine lv_iload_n hx hb dX0_invert_12 rfl (lv_at hl 0 rfl) ?_
      refine vp_callSi (va_runV (As := [.int (nI i)]) (rest := [.int (nI i), .ref h]) ⟨hx, hb, hml, hown, hts⟩ (conX0_holds l D T h a (invZ f i) (nI i)) (cwV 1 hts gX0_invert_X0_holds rfl rfl rfl (by decide +kernel) ⟨Nat.le_of_ble_eq_true rfl, Nat.le_of_ble_eq_true rfl⟩) (preV hK hh rfl ⟨hh, ha, hne⟩) rfl rfl hl.1 rfl (lv_room (Nat.le_of_ble_eq_true rfl)) dX0_invert_13 ⟨Nat.le_of_ble_eq_true rfl, Nat.le_of_ble_eq_true rfl⟩).run (fun r2 hr2 => ?_)
      subst hr2
      refine lv_if_ne (tgt := 23) hx hb dX0_invert_16 (by decide) (fun c16 => ?_) (fun c16 => ?_)
      · skip
        refine lv_iconst (v := nI 0) hx hb dX0_invert_23 (by decide) ?_
        refine va_callv (va_runV (As := [.int (nI i), .int (nI 0)]) (rest := []) ⟨hx, hb, hml, hown, hts⟩ (conX0_write l D T h a (invZ f i) (nI i) (nI 0) (rfl)) (cwV 2 hts gX0_invert_X0_write rfl rfl rfl (by decide +kernel) ⟨Nat.le_of_ble_eq_true rfl, Nat.le_of_ble_eq_true rfl⟩) (preV hK hh rfl ⟨hh, ha, hne⟩) rfl rfl hl.1 rfl (lv_room (Nat.le_of_ble_eq_true rfl)) dX0_invert_24 ⟨Nat.le_of_ble_eq_true rfl, Nat.le_of_ble_eq_true rfl⟩) hS (fun q _ h9 => (by have h8 : q = a := h9; rw [h8]; exact hA_a)) (fun q h9 => (by have h8 : q = a := h9; rw [h8]; exact hA_a)) (fun u t H1 locs1 ht hvm hw9 hB hz1 hk1 hS => ?_)
        try dsimp only at hB
        rw [ht] at hB
        replace hh := hh.kept (hk1 _ hh.lt (fun h9 => hne h9))
        have ha := hB
        refine lv_iinc (v := nI (i + 1)) (lv' := [(1, .int (nI (i + 1))), (0, .ref h)]) hx hb dX0_invert_27 hl (k := 0) rfl (inc_1 _) (by decide) rfl (fun ls hl => ?_)
        refine lv_goto (tgt := 2) hx hb dX0_invert_30 (by decide) ?_
        have e3 : (eN (T 0) 201 (wrZ (invZ f i) (nI i) (nI 0))) = (eN (T 0) 201 (invZ f (i + 1))) := by first | rfl | (rw [invZ_s, if_pos c16]; done) | (rw [invZ_s, if_neg c16]; done)
        exact hnext _ _ _ ⟨hS, lv_sub hl [0, 1] rfl, hh, (by rw [← e3]; exact ha)⟩
      · skip
        refine lv_iconst (v := nI 1) hx hb dX0_invert_19 (by decide) ?_
        refine lv_goto (tgt := 24) hx hb dX0_invert_20 (by decide) ?_
        refine va_callv (va_runV (As := [.int (nI i), .int (nI 1)]) (rest := []) ⟨hx, hb, hml, hown, hts⟩ (conX0_write l D T h a (invZ f i) (nI i) (nI 1) (rfl)) (cwV 2 hts gX0_invert_X0_write rfl rfl rfl (by decide +kernel) ⟨Nat.le_of_ble_eq_true rfl, Nat.le_of_ble_eq_true rfl⟩) (preV hK hh rfl ⟨hh, ha, hne⟩) rfl rfl hl.1 rfl (lv_room (Nat.le_of_ble_eq_true rfl)) dX0_invert_24 ⟨Nat.le_of_ble_eq_true rfl, Nat.le_of_ble_eq_true rfl⟩) hS (fun q _ h9 => (by have h8 : q = a := h9; rw [h8]; exact hA_a)) (fun q h9 => (by have h8 : q = a := h9; rw [h8]; exact hA_a)) (fun u t H1 locs1 ht hvm hw9 hB hz1 hk1 hS => ?_)
        try dsimp only at hB
        rw [ht] at hB
        replace hh := hh.kept (hk1 _ hh.lt (fun h9 => hne h9))
        have ha := hB
        refine lv_iinc (v := nI (i + 1)) (lv' := [(1, .int (nI (i + 1))), (0, .ref h)]) hx hb dX0_invert_27 hl (k := 0) rfl (inc_1 _) (by decide) rfl (fun ls hl => ?_)
        refine lv_goto (tgt := 2) hx hb dX0_invert_30 (by decide) ?_
        have e4 : (eN (T 0) 201 (wrZ (invZ f i) (nI i) (nI 1))) = (eN (T 0) 201 (invZ f (i + 1))) := by first | rfl | (rw [invZ_s, if_pos c16]; done) | (rw [invZ_s, if_neg c16]; done)
        exact hnext _ _ _ ⟨hS, lv_sub hl [0, 1] rfl, hh, (by rw [← e4]; exact ha)⟩
  · skip
    intro H locs ls hin9
    obtain ⟨hS, hl, hh, ha⟩ := hin9
    refine lv_iload_n hx hb dX0_invert_2 rfl (lv_at hl 0 rfl) ?_
    refine lv_sipush (v := nI 201) hx hb dX0_invert_3 (by decide) ?_
    refine lv_icmp_ge (tgt := 33) hx hb dX0_invert_6 (by decide) (fun c6 => ?_) (fun c6 => ?_)
    · skip
      have c6 : 201 ≤ 201 := (nc_le (a := 201) (b := 201) (by omega) (by omega)).mp c6
      exact W.vret hx hb hr (fun t ht _ => ⟨⟨(), rfl, trivial, by dsimp only; rw [ht]; exact ha⟩, hS.F ht⟩) hS.2.2 dX0_invert_33
    · skip
      have c6 : ¬ (201 ≤ 201) := fun q9 => c6 ((nc_le (a := 201) (b := 201) (by omega) (by omega)).mpr q9)
      omega
