set_option maxHeartbeats 4000000 in
set_option maxRecDepth 100000 in
theorem conX2_at (l : Launch) (D : va_G) (T : Nat → ClassId) (h a : Nat) (f : Nat → Int32) (g : Int32) : Met l yX2_at wsX2_at ({ frames := 0, cells := 0, slots := 0, locals := 0 }) (cP D T [.ref h, .int g] (fun H => SF D T h a f H)) (vp_Si (fun r => r = atV f g)) 0 0 (fun _ => False) := by
  refine Met.ofW (cc := cX2_at) (maxL := 2) (ret := (some .int)) (by decide) rfl ?_
  intro p e s m args below meth c s₁ B hml hv9
  obtain ⟨rfl, hK, hh, ha, hne⟩ := hv9
  have hx := B.exec
  have hb := B.bytes
  have hr := B.returns
  have hts := atoms_spec (ws := wsX2_at) B.pre
  have hown : s.vm.findClass RX2 = some m.cls := findClass_of_methodNamed B.named
  have hlocks := B.notSynchronized
  have hin2 : ∀ w ∈ wsX20, w ∈ wsX2_at := by decide +kernel
  have hl := lv_entry ([.ref h, .int g]) (n := 2) (Nat.le_of_ble_eq_true rfl)
  rw [lg_entry_eq]
  generalize (lg_sl ([.ref h, .int g]) ++ List.replicate (2 - (lg_sl ([.ref h, .int g])).length) Slot.unset).toArray = ls at hl ⊢
  have hl : lv_has ls 2 [(0, .ref h), (1, .int g)] := hl
  refine lv_iload_n hx hb dX2_at_0 rfl (lv_at hl 1 rfl) ?_
  refine lv_if_lt (tgt := 22) hx hb dX2_at_1 (by decide) (fun c1 => ?_) (fun c1 => ?_)
  · skip
    refine lv_iconst (v := nI 0) hx hb dX2_at_22 (by decide) ?_
    exact W.iret (v := nI 0) hx hb hr (fun t ht _ => ⟨nI 0, rfl, by simp [atV, c1], ht⟩) (fun q hq => absurd hq List.not_mem_nil) dX2_at_23
  · skip
    refine lv_iload_n hx hb dX2_at_4 rfl (lv_at hl 1 rfl) ?_
    refine lv_aload_n hx hb dX2_at_5 rfl (lv_at hl 0 rfl) ?_
    refine q_get (v := .ref a) hx hb hts hin2 hown hK hh rfl 0 (by decide) (hts (.fieldLink RX2 9 "PuddingstoneLine$StepFunction" "values" "[I") (by decide +kernel)) (fun _ h9 => h9) rfl dX2_at_6 ?_
    refine q_len hx hb hK 1 rfl ha dX2_at_9 ?_
    refine lv_icmp_ge (tgt := 22) hx hb dX2_at_10 (by decide) (fun c10 => ?_) (fun c10 => ?_)
    · skip
      refine lv_iconst (v := nI 0) hx hb dX2_at_22 (by decide) ?_
      exact W.iret (v := nI 0) hx hb hr (fun t ht _ => ⟨nI 0, rfl, by simp [atV, c1, c10], ht⟩) (fun q hq => absurd hq List.not_mem_nil) dX2_at_23
    · skip
      refine lv_aload_n hx hb dX2_at_13 rfl (lv_at hl 0 rfl) ?_
      refine q_get (v := .ref a) hx hb hts hin2 hown hK hh rfl 0 (by decide) (hts (.fieldLink RX2 9 "PuddingstoneLine$StepFunction" "values" "[I") (by decide +kernel)) (fun _ h9 => h9) rfl dX2_at_14 ?_
      refine lv_iload_n hx hb dX2_at_17 rfl (lv_at hl 1 rfl) ?_
      refine q_iald hx hb hK ha g.toNatClampNeg (in_eq c1) (in_lt c1 c10) (by decide) dX2_at_18 ?_
      refine lv_goto (tgt := 23) hx hb dX2_at_19 (by decide) ?_
      exact W.iret (v := f g.toNatClampNeg) hx hb hr (fun t ht _ => ⟨f g.toNatClampNeg, rfl, by simp [atV, c1, c10], ht⟩) (fun q hq => absurd hq List.not_mem_nil) dX2_at_23

set_option maxHeartbeats 4000000 in
set_option maxRecDepth 100000 in
theorem conX2_write (l : Launch) (D : va_G) (T : Nat → ClassId) (h a : Nat) (f : Nat → Int32) (g v : Int32) : Met l yX2_write wsX2_write ({ frames := 1, cells := 0, slots := 0, locals := 16 }) (cP D T [.ref h, .int g, .int v] (fun H => SF D T h a f H)) (va_Qv (fun (_ : Unit) => True) (fun _ t => pAt D t.heap a (eN (T 1) 201 (wrV f g v))) (fun q : Nat => q = a)) 0 0 (fun q : Nat => q = a) := by
  refine Met.ofW (cc := cX2_write) (maxL := 3) (ret := none) (by decide) rfl ?_
  intro p e s m args below meth c s₁ B hml hv9
  obtain ⟨rfl, hK, hh, ha, hne⟩ := hv9
  have hx := B.exec
  have hb := B.bytes
  have hr := B.returns
  have hts := atoms_spec (ws := wsX2_write) B.pre
  have hown : s.vm.findClass RX2 = some m.cls := findClass_of_methodNamed B.named
  have hlocks := B.notSynchronized
  have hin2 : ∀ w ∈ wsX20, w ∈ wsX2_write := by decide +kernel
  generalize hAe : (fun q : Nat => q = a) = A
  have hA_a : A a := by subst hAe; first | rfl | exact Or.inl rfl | exact Or.inr rfl | (simp; done)
  have hS : va_S A s.heap s.heap [] := va_S.rf
  have hl := lv_entry ([.ref h, .int g, .int v]) (n := 3) (Nat.le_of_ble_eq_true rfl)
  rw [lg_entry_eq]
  generalize (lg_sl ([.ref h, .int g, .int v]) ++ List.replicate (3 - (lg_sl ([.ref h, .int g, .int v])).length) Slot.unset).toArray = ls at hl ⊢
  have hl : lv_has ls 3 [(0, .ref h), (1, .int g), (2, .int v)] := hl
  refine lv_iload_n hx hb dX2_write_0 rfl (lv_at hl 1 rfl) ?_
  refine lv_if_lt (tgt := 32) hx hb dX2_write_1 (by decide) (fun c1 => ?_) (fun c1 => ?_)
  · skip
    exact W.vret hx hb hr (fun t ht _ => ⟨⟨(), rfl, trivial, by dsimp only; rw [ht]; exact (by simp only [wrV, c1, if_true, if_false]; exact ha)⟩, hS.F ht⟩) hS.2.2 dX2_write_32
  · skip
    refine lv_iload_n hx hb dX2_write_4 rfl (lv_at hl 1 rfl) ?_
    refine lv_aload_n hx hb dX2_write_5 rfl (lv_at hl 0 rfl) ?_
    refine q_get (v := .ref a) hx hb hts hin2 hown hK hh rfl 0 (by decide) (hts (.fieldLink RX2 9 "PuddingstoneLine$StepFunction" "values" "[I") (by decide +kernel)) (fun _ h9 => h9) rfl dX2_write_6 ?_
    refine q_len hx hb hK 1 rfl ha dX2_write_9 ?_
    refine lv_icmp_ge (tgt := 32) hx hb dX2_write_10 (by decide) (fun c10 => ?_) (fun c10 => ?_)
    · skip
      exact W.vret hx hb hr (fun t ht _ => ⟨⟨(), rfl, trivial, by dsimp only; rw [ht]; exact (by simp only [wrV, c1, c10, if_true, if_false]; exact ha)⟩, hS.F ht⟩) hS.2.2 dX2_write_32
    · skip
      refine lv_aload_n hx hb dX2_write_13 rfl (lv_at hl 0 rfl) ?_
      refine q_get (v := .ref a) hx hb hts hin2 hown hK hh rfl 0 (by decide) (hts (.fieldLink RX2 9 "PuddingstoneLine$StepFunction" "values" "[I") (by decide +kernel)) (fun _ h9 => h9) rfl dX2_write_14 ?_
      refine lv_iload_n hx hb dX2_write_17 rfl (lv_at hl 1 rfl) ?_
      refine lv_sipush (v := (-10000)) hx hb dX2_write_18 (by decide) ?_
      refine lv_sipush (v := nI 10000) hx hb dX2_write_21 (by decide) ?_
      refine lv_iload_n hx hb dX2_write_24 rfl (lv_at hl 2 rfl) ?_
      refine va_mmin hx hb (hml.trans hl.1.symm) hown (hts (.methodLink RX2 15 Lib.Math.min.name) (by decide +kernel)) (hts (.static Lib.Math.min.name) (by decide +kernel)) (hts (.initialized "java/lang/Math") (by decide +kernel)) (hts (.code Lib.Math.min.name Lib.Math.min.code 2 (some .int)) (by decide +kernel)) (Nat.le_of_ble_eq_true rfl) (Nat.le_of_ble_eq_true rfl) (Nat.le_of_ble_eq_true rfl) (Nat.le_of_ble_eq_true rfl) dX2_write_25 ?_
      refine va_mmax hx hb (hml.trans hl.1.symm) hown (hts (.methodLink RX2 21 Lib.Math.max.name) (by decide +kernel)) (hts (.static Lib.Math.max.name) (by decide +kernel)) (hts (.initialized "java/lang/Math") (by decide +kernel)) (hts (.code Lib.Math.max.name Lib.Math.max.code 2 (some .int)) (by decide +kernel)) (Nat.le_of_ble_eq_true rfl) (Nat.le_of_ble_eq_true rfl) (Nat.le_of_ble_eq_true rfl) (Nat.le_of_ble_eq_true rfl) dX2_write_28 ?_
      refine q_iast hx hb hK ha g.toNatClampNeg (in_eq c1) (in_lt c1 c10) (by decide) hS (hA_a) dX2_write_31 (fun H1 locs1 hw9 hz oq hS => ?_)
      replace hh := hh.ne oq (hne)
      have ha := hw9
      exact W.vret hx hb hr (fun t ht _ => ⟨⟨(), rfl, trivial, by dsimp only; rw [ht]; exact (by simp only [wrV, c1, c10, if_true, if_false]; exact ha)⟩, hS.F ht⟩) hS.2.2 dX2_write_32

set_option maxHeartbeats 4000000 in
set_option maxRecDepth 100000 in
theorem conX2_copyFrom (l : Launch) (D : va_G) (T : Nat → ClassId) (h a : Nat) (f : Nat → Int32) (h2 a2 : Nat) (g : Nat → Int32) : Met l yX2_copyFrom wsX2_copyFrom ({ frames := 2, cells := 0, slots := 0, locals := 38 }) (cP D T [.ref h, .ref h2] (fun H => SF D T h a f H ∧ SF D T h2 a2 g H ∧ h2 ≠ a ∧ a2 ≠ a)) (va_Qv (fun (_ : Unit) => True) (fun _ t => pAt D t.heap a (eN (T 1) 201 (copyV f g 201))) (fun q : Nat => q = a)) 0 0 (fun q : Nat => q = a) := by
  refine Met.ofW (cc := cX2_copyFrom) (maxL := 3) (ret := none) (by decide) rfl ?_
  intro p e s m args below meth c s₁ B hml hv9
  obtain ⟨rfl, hK, ⟨hh, ha, hne⟩, ⟨gh, ga, gne⟩, hn2, hn3⟩ := hv9
  have hx := B.exec
  have hb := B.bytes
  have hr := B.returns
  have hts := atoms_spec (ws := wsX2_copyFrom) B.pre
  have hown : s.vm.findClass RX2 = some m.cls := findClass_of_methodNamed B.named
  have hlocks := B.notSynchronized
  generalize hAe : (fun q : Nat => q = a) = A
  have hA_a : A a := by subst hAe; first | rfl | exact Or.inl rfl | exact Or.inr rfl | (simp; done)
  have hS : va_S A s.heap s.heap [] := va_S.rf
  have hl := lv_entry ([.ref h, .ref h2]) (n := 3) (Nat.le_of_ble_eq_true rfl)
  rw [lg_entry_eq]
  generalize (lg_sl ([.ref h, .ref h2]) ++ List.replicate (3 - (lg_sl ([.ref h, .ref h2])).length) Slot.unset).toArray = ls at hl ⊢
  have hl : lv_has ls 3 [(0, .ref h), (1, .ref h2)] := hl
  refine lv_iconst (v := nI 0) hx hb dX2_copyFrom_0 (by decide) ?_
  refine lv_istore_n (lv' := [(2, .int (nI 0)), (0, .ref h), (1, .ref h2)]) hx hb dX2_copyFrom_1 rfl hl (by decide) rfl (fun ls hl => ?_)
  refine q_for (fun (i : Nat) (H : Heap) (locs : List Loc) (ls : Array Slot) => va_S A s.heap H locs ∧ lv_has ls 3 [(2, .int (nI i)), (0, .ref h), (1, .ref h2)] ∧ pAt D H h (eO 2 [.ref a]) ∧ pAt D H a (eN (T 1) 201 (copyV f g i)) ∧ pAt D H h2 (eO 2 [.ref a2]) ∧ pAt D H a2 (eN (T 1) 201 g)) (N := 201) 0 (by omega) ?_ ?_ ?_
  · skip
    have e1 : (eN (T 1) 201 f) = (eN (T 1) 201 (copyV f g 0)) := by rfl
    exact ⟨hS, lv_sub hl [0, 1, 2] rfl, hh, (by rw [← e1]; exact ha), gh, ga⟩
  · skip
    intro i H locs ls hi9 hin9 hnext
    obtain ⟨hS, hl, hh, ha, gh, ga⟩ := hin9
    refine lv_iload_n hx hb dX2_copyFrom_2 rfl (lv_at hl 0 rfl) ?_
    refine lv_sipush (v := nI 201) hx hb dX2_copyFrom_3 (by decide) ?_
    refine lv_icmp_ge (tgt := 25) hx hb dX2_copyFrom_6 (by decide) (fun c6 => ?_) (fun c6 => ?_)
    · skip
      have c6 : 201 ≤ i := (nc_le (a := 201) (b := i) (by omega) (by omega)).mp c6
      omega
    · skip
      have c6 : ¬ (201 ≤ i) := fun q9 => c6 ((nc_le (a := 201) (b := i) (by omega) (by omega)).mpr q9)
      refine lv_aload_n hx hb dX2_copyFrom_9 rfl (lv_at hl 1 rfl) ?_
      refine lv_iload_n hx hb dX2_copyFrom_10 rfl (lv_at hl 0 rfl) ?_
      refine lv_aload_n hx hb dX2_copyFrom_11 rfl (lv_at hl 2 rfl) ?_
      refine lv_iload_n hx hb dX2_copyFrom_12 rfl (lv_at hl 0 rfl) ?_
      refine vp_callSi (va_runV (As := [.int (nI i)]) (rest := [.int (nI i), .ref h]) ⟨hx, hb, hml, hown, hts⟩ (conX2_at l D T h2 a2 g (nI i)) (cwV 1 hts gX2_copyFrom_X2_at rfl rfl rfl (by decide +kernel) ⟨Nat.le_of_ble_eq_true rfl, Nat.le_of_ble_eq_true rfl⟩) (preV hK gh rfl ⟨gh, ga, gne⟩) rfl rfl hl.1 rfl (lv_room (Nat.le_of_ble_eq_true rfl)) dX2_copyFrom_13 ⟨Nat.le_of_ble_eq_true rfl, Nat.le_of_ble_eq_true rfl⟩).run (fun r2 hr2 => ?_)
      subst hr2
      refine va_callv (va_runV (As := [.int (nI i), .int (atV g (nI i))]) (rest := []) ⟨hx, hb, hml, hown, hts⟩ (conX2_write l D T h a (copyV f g i) (nI i) (atV g (nI i))) (cwV 2 hts gX2_copyFrom_X2_write rfl rfl rfl (by decide +kernel) ⟨Nat.le_of_ble_eq_true rfl, Nat.le_of_ble_eq_true rfl⟩) (preV hK hh rfl ⟨hh, ha, hne⟩) rfl rfl hl.1 rfl (lv_room (Nat.le_of_ble_eq_true rfl)) dX2_copyFrom_16 ⟨Nat.le_of_ble_eq_true rfl, Nat.le_of_ble_eq_true rfl⟩) hS (fun q _ h9 => (by have h8 : q = a := h9; rw [h8]; exact hA_a)) (fun q h9 => (by have h8 : q = a := h9; rw [h8]; exact hA_a)) (fun u t H1 locs1 ht hvm hw9 hB hz1 hk1 hS => ?_)
      try dsimp only at hB
      rw [ht] at hB
      replace hh := hh.kept (hk1 _ hh.lt (fun h9 => hne h9))
      replace gh := gh.kept (hk1 _ gh.lt (fun h9 => hn2 h9))
      replace ga := ga.kept (hk1 _ ga.lt (fun h9 => hn3 h9))
      have ha := hB
      refine lv_iinc (v := nI (i + 1)) (lv' := [(2, .int (nI (i + 1))), (0, .ref h), (1, .ref h2)]) hx hb dX2_copyFrom_19 hl (k := 0) rfl (inc_1 _) (by decide) rfl (fun ls hl => ?_)
      refine lv_goto (tgt := 2) hx hb dX2_copyFrom_22 (by decide) ?_
      have e3 : (eN (T 1) 201 (wrV (copyV f g i) (nI i) (atV g (nI i)))) = (eN (T 1) 201 (copyV f g (i + 1))) := by (rw [copyV_s])
      exact hnext _ _ _ ⟨hS, lv_sub hl [0, 1, 2] rfl, hh, (by rw [← e3]; exact ha), gh, ga⟩
  · skip
    intro H locs ls hin9
    obtain ⟨hS, hl, hh, ha, gh, ga⟩ := hin9
    refine lv_iload_n hx hb dX2_copyFrom_2 rfl (lv_at hl 0 rfl) ?_
    refine lv_sipush (v := nI 201) hx hb dX2_copyFrom_3 (by decide) ?_
    refine lv_icmp_ge (tgt := 25) hx hb dX2_copyFrom_6 (by decide) (fun c6 => ?_) (fun c6 => ?_)
    · skip
      have c6 : 201 ≤ 201 := (nc_le (a := 201) (b := 201) (by omega) (by omega)).mp c6
      exact W.vret hx hb hr (fun t ht _ => ⟨⟨(), rfl, trivial, by dsimp only; rw [ht]; exact ha⟩, hS.F ht⟩) hS.2.2 dX2_copyFrom_25
    · skip
      have c6 : ¬ (201 ≤ 201) := fun q9 => c6 ((nc_le (a := 201) (b := 201) (by omega) (by omega)).mpr q9)
      omega

set_option maxHeartbeats 4000000 in
set_option maxRecDepth 100000 in
theorem conX2_steps (l : Launch) (D : va_G) (T : Nat → ClassId) (h a : Nat) (f : Nat → Int32) : Met l yX2_steps wsX2_steps ({ frames := 1, cells := 0, slots := 0, locals := 21 }) (cP D T [.ref h] (fun H => SF D T h a f H)) (vp_Si (fun r => r = stepsV f 200)) 0 0 (fun _ => False) := by
  refine Met.ofW (cc := cX2_steps) (maxL := 3) (ret := (some .int)) (by decide) rfl ?_
  intro p e s m args below meth c s₁ B hml hv9
  obtain ⟨rfl, hK, hh, ha, hne⟩ := hv9
  have hx := B.exec
  have hb := B.bytes
  have hr := B.returns
  have hts := atoms_spec (ws := wsX2_steps) B.pre
  have hown : s.vm.findClass RX2 = some m.cls := findClass_of_methodNamed B.named
  have hlocks := B.notSynchronized
  have hl := lv_entry ([.ref h]) (n := 3) (Nat.le_of_ble_eq_true rfl)
  rw [lg_entry_eq]
  generalize (lg_sl ([.ref h]) ++ List.replicate (3 - (lg_sl ([.ref h])).length) Slot.unset).toArray = ls at hl ⊢
  have hl : lv_has ls 3 [(0, .ref h)] := hl
  refine lv_iconst (v := nI 1) hx hb dX2_steps_0 (by decide) ?_
  refine lv_istore_n (lv' := [(1, .int (nI 1)), (0, .ref h)]) hx hb dX2_steps_1 rfl hl (by decide) rfl (fun ls hl => ?_)
  refine lv_iconst (v := nI 1) hx hb dX2_steps_2 (by decide) ?_
  refine lv_istore_n (lv' := [(2, .int (nI 1)), (1, .int (nI 1)), (0, .ref h)]) hx hb dX2_steps_3 rfl hl (by decide) rfl (fun ls hl => ?_)
  refine q_for (fun (i : Nat) (H : Heap) (locs : List Loc) (ls : Array Slot) => H = s.heap ∧ locs = [] ∧ lv_has ls 3 [(2, .int (nI (i + 1))), (1, .int (stepsV f i)), (0, .ref h)]) (N := 200) 0 (by omega) ?_ ?_ ?_
  · skip
    have e1 : nI 1 = stepsV f 0 := by rfl
    exact ⟨rfl, rfl, lv_sub (lv_ex hl 1 rfl (congrArg Value.int e1)) [0, 1, 2] rfl⟩
  · skip
    intro i H locs ls hi9 hin9 hnext
    obtain ⟨rfl, rfl, hl⟩ := hin9
    refine lv_iload_n hx hb dX2_steps_4 rfl (lv_at hl 0 rfl) ?_
    refine lv_sipush (v := nI 201) hx hb dX2_steps_5 (by decide) ?_
    refine lv_icmp_ge (tgt := 35) hx hb dX2_steps_8 (by decide) (fun c8 => ?_) (fun c8 => ?_)
    · skip
      have c8 : 201 ≤ i + 1 := (nc_le (a := 201) (b := i + 1) (by omega) (by omega)).mp c8
      omega
    · skip
      have c8 : ¬ (201 ≤ i + 1) := fun q9 => c8 ((nc_le (a := 201) (b := i + 1) (by omega) (by omega)).mpr q9)
      refine lv_aload_n hx hb dX2_steps_11 rfl (lv_at hl 2 rfl) ?_
      refine lv_iload_n hx hb dX2_steps_12 rfl (lv_at hl 0 rfl) ?_
      refine vp_callSi (va_runV (As := [.int (nI (i + 1))]) (rest := []) ⟨hx, hb, hml, hown, hts⟩ (conX2_at l D T h a f (nI (i + 1))) (cwV 1 hts gX2_steps_X2_at rfl rfl rfl (by decide +kernel) ⟨Nat.le_of_ble_eq_true rfl, Nat.le_of_ble_eq_true rfl⟩) (preV hK hh rfl ⟨hh, ha, hne⟩) rfl rfl hl.1 rfl (lv_room (Nat.le_of_ble_eq_true rfl)) dX2_steps_13 ⟨Nat.le_of_ble_eq_true rfl, Nat.le_of_ble_eq_true rfl⟩).run (fun r2 hr2 => ?_)
      subst hr2
      refine lv_aload_n hx hb dX2_steps_16 rfl (lv_at hl 2 rfl) ?_
      refine lv_iload_n hx hb dX2_steps_17 rfl (lv_at hl 0 rfl) ?_
      refine lv_iconst (v := nI 1) hx hb dX2_steps_18 (by decide) ?_
      refine lv_isub hx hb dX2_steps_19 ?_
      refine vp_callSi (va_runV (As := [.int ((nI (i + 1)) - (nI 1))]) (rest := [.int (atV f (nI (i + 1)))]) ⟨hx, hb, hml, hown, hts⟩ (conX2_at l D T h a f ((nI (i + 1)) - (nI 1))) (cwV 1 hts gX2_steps_X2_at rfl rfl rfl (by decide +kernel) ⟨Nat.le_of_ble_eq_true rfl, Nat.le_of_ble_eq_true rfl⟩) (preV hK hh rfl ⟨hh, ha, hne⟩) rfl rfl hl.1 rfl (lv_room (Nat.le_of_ble_eq_true rfl)) dX2_steps_20 ⟨Nat.le_of_ble_eq_true rfl, Nat.le_of_ble_eq_true rfl⟩).run (fun r3 hr3 => ?_)
      subst hr3
      refine lv_icmp_eq (tgt := 29) hx hb dX2_steps_23 (by decide) (fun c23 => ?_) (fun c23 => ?_)
      · skip
        refine lv_iinc (v := nI (i + 1 + 1)) (lv' := [(2, .int (nI (i + 1 + 1))), (1, .int (stepsV f i)), (0, .ref h)]) hx hb dX2_steps_29 hl (k := 0) rfl (inc_1 _) (by decide) rfl (fun ls hl => ?_)
        refine lv_goto (tgt := 4) hx hb dX2_steps_32 (by decide) ?_
        have e4 : nI (i + 1 + 1) = nI ((i + 1) + 1) := by rfl
        have e5 : stepsV f i = stepsV f (i + 1) := by first | (rw [stepsV_s, if_pos c23]; done) | (rw [stepsV_s, if_neg c23]; done)
        exact hnext _ _ _ ⟨rfl, rfl, lv_sub (lv_ex (lv_ex hl 0 rfl (congrArg Value.int e4)) 1 rfl (congrArg Value.int e5)) [0, 1, 2] rfl⟩
      · skip
        refine lv_iinc (v := (stepsV f i) + 1) (lv' := [(1, .int ((stepsV f i) + 1)), (2, .int (nI (i + 1))), (0, .ref h)]) hx hb dX2_steps_26 hl (k := 1) rfl (rfl) (by decide) rfl (fun ls hl => ?_)
        refine lv_iinc (v := nI (i + 1 + 1)) (lv' := [(2, .int (nI (i + 1 + 1))), (1, .int ((stepsV f i) + 1)), (0, .ref h)]) hx hb dX2_steps_29 hl (k := 1) rfl (inc_1 _) (by decide) rfl (fun ls hl => ?_)
        refine lv_goto (tgt := 4) hx hb dX2_steps_32 (by decide) ?_
        have e6 : nI (i + 1 + 1) = nI ((i + 1) + 1) := by rfl
        have e7 : (stepsV f i) + 1 = stepsV f (i + 1) := by first | (rw [stepsV_s, if_pos c23]; done) | (rw [stepsV_s, if_neg c23]; done)
        exact hnext _ _ _ ⟨rfl, rfl, lv_sub (lv_ex (lv_ex hl 0 rfl (congrArg Value.int e6)) 1 rfl (congrArg Value.int e7)) [0, 1, 2] rfl⟩
  · skip
    intro H locs ls hin9
    obtain ⟨rfl, rfl, hl⟩ := hin9
    refine lv_iload_n hx hb dX2_steps_4 rfl (lv_at hl 0 rfl) ?_
    refine lv_sipush (v := nI 201) hx hb dX2_steps_5 (by decide) ?_
    refine lv_icmp_ge (tgt := 35) hx hb dX2_steps_8 (by decide) (fun c8 => ?_) (fun c8 => ?_)
    · skip
      have c8 : 201 ≤ 201 := (nc_le (a := 201) (b := 201) (by omega) (by omega)).mp c8
      refine lv_iload_n hx hb dX2_steps_35 rfl (lv_at hl 1 rfl) ?_
      exact W.iret (v := stepsV f 200) hx hb hr (fun t ht _ => ⟨stepsV f 200, rfl, by rfl, ht⟩) (fun q hq => absurd hq List.not_mem_nil) dX2_steps_36
    · skip
      have c8 : ¬ (201 ≤ 201) := fun q9 => c8 ((nc_le (a := 201) (b := 201) (by omega) (by omega)).mpr q9)
      omega

set_option maxHeartbeats 4000000 in
set_option maxRecDepth 100000 in
theorem conX2_greatest (l : Launch) (D : va_G) (T : Nat → ClassId) (h a : Nat) (f : Nat → Int32) (lo hi : Nat) (first last : Int32) (hlo : lo < 2 ^ 30) (hhi : hi < 2 ^ 30) (hfi : jmax first (nI 0) = nI lo) (hla : last.toInt + 1 = (hi : Int)) : Met l yX2_greatest wsX2_greatest ({ frames := 1, cells := 0, slots := 0, locals := 21 }) (cP D T [.ref h, .int first, .int last] (fun H => SF D T h a f H)) (vp_Si (fun r => r = grtV f lo (min hi 201 - lo))) 0 0 (fun _ => False) := by
  refine Met.ofW (cc := cX2_greatest) (maxL := 5) (ret := (some .int)) (by decide) rfl ?_
  intro p e s m args below meth c s₁ B hml hv9
  obtain ⟨rfl, hK, hh, ha, hne⟩ := hv9
  have hx := B.exec
  have hb := B.bytes
  have hr := B.returns
  have hts := atoms_spec (ws := wsX2_greatest) B.pre
  have hown : s.vm.findClass RX2 = some m.cls := findClass_of_methodNamed B.named
  have hlocks := B.notSynchronized
  have hl := lv_entry ([.ref h, .int first, .int last]) (n := 5) (Nat.le_of_ble_eq_true rfl)
  rw [lg_entry_eq]
  generalize (lg_sl ([.ref h, .int first, .int last]) ++ List.replicate (5 - (lg_sl ([.ref h, .int first, .int last])).length) Slot.unset).toArray = ls at hl ⊢
  have hl : lv_has ls 5 [(0, .ref h), (1, .int first), (2, .int last)] := hl
  refine lv_sipush (v := (-10000)) hx hb dX2_greatest_0 (by decide) ?_
  refine lv_istore_n (lv' := [(3, .int (-10000)), (0, .ref h), (1, .int first), (2, .int last)]) hx hb dX2_greatest_3 rfl hl (by decide) rfl (fun ls hl => ?_)
  refine lv_iload_n hx hb dX2_greatest_4 rfl (lv_at hl 2 rfl) ?_
  refine lv_iconst (v := nI 0) hx hb dX2_greatest_5 (by decide) ?_
  refine va_mmax hx hb (hml.trans hl.1.symm) hown (hts (.methodLink RX2 21 Lib.Math.max.name) (by decide +kernel)) (hts (.static Lib.Math.max.name) (by decide +kernel)) (hts (.initialized "java/lang/Math") (by decide +kernel)) (hts (.code Lib.Math.max.name Lib.Math.max.code 2 (some .int)) (by decide +kernel)) (Nat.le_of_ble_eq_true rfl) (Nat.le_of_ble_eq_true rfl) (Nat.le_of_ble_eq_true rfl) (Nat.le_of_ble_eq_true rfl) dX2_greatest_6 ?_
  refine lv_istore (lv' := [(4, .int (jmax first (nI 0))), (3, .int (-10000)), (0, .ref h), (1, .int first), (2, .int last)]) hx hb dX2_greatest_9 hl (by decide) rfl (fun ls hl => ?_)
  refine q_for (fun (i : Nat) (H : Heap) (locs : List Loc) (ls : Array Slot) => H = s.heap ∧ locs = [] ∧ lv_has ls 5 [(4, .int (nI (lo + i))), (3, .int (grtV f lo i)), (0, .ref h), (1, .int first), (2, .int last)]) (N := (min hi 201 - lo)) 0 (by omega) ?_ ?_ ?_
  · skip
    have e1 : jmax first (nI 0) = nI (lo + 0) := by exact hfi
    have e2 : (-10000) = grtV f lo 0 := by rfl
    exact ⟨rfl, rfl, lv_sub (lv_ex (lv_ex hl 0 rfl (congrArg Value.int e1)) 1 rfl (congrArg Value.int e2)) [0, 1, 2, 3, 4] rfl⟩
  · skip
    intro i H locs ls hi9 hin9 hnext
    obtain ⟨rfl, rfl, hl⟩ := hin9
    refine lv_iload hx hb dX2_greatest_11 (lv_at hl 0 rfl) ?_
    refine lv_iload_n hx hb dX2_greatest_13 rfl (lv_at hl 4 rfl) ?_
    refine lv_icmp_gt (tgt := 42) hx hb dX2_greatest_14 (by decide) (fun c14 => ?_) (fun c14 => ?_)
    · skip
      have c14 : hi ≤ lo + i := (lt_pred hla (by omega)).mp c14
      omega
    · skip
      have c14 : ¬ (hi ≤ lo + i) := fun q9 => c14 ((lt_pred hla (by omega)).mpr q9)
      refine lv_iload hx hb dX2_greatest_17 (lv_at hl 0 rfl) ?_
      refine lv_sipush (v := nI 201) hx hb dX2_greatest_19 (by decide) ?_
      refine lv_icmp_ge (tgt := 42) hx hb dX2_greatest_22 (by decide) (fun c22 => ?_) (fun c22 => ?_)
      · skip
        have c22 : 201 ≤ lo + i := (nc_le (a := 201) (b := lo + i) (by omega) (by omega)).mp c22
        omega
      · skip
        have c22 : ¬ (201 ≤ lo + i) := fun q9 => c22 ((nc_le (a := 201) (b := lo + i) (by omega) (by omega)).mpr q9)
        refine lv_iload_n hx hb dX2_greatest_25 rfl (lv_at hl 1 rfl) ?_
        refine lv_aload_n hx hb dX2_greatest_26 rfl (lv_at hl 2 rfl) ?_
        refine lv_iload hx hb dX2_greatest_27 (lv_at hl 0 rfl) ?_
        refine vp_callSi (va_runV (As := [.int (nI (lo + i))]) (rest := [.int (grtV f lo i)]) ⟨hx, hb, hml, hown, hts⟩ (conX2_at l D T h a f (nI (lo + i))) (cwV 1 hts gX2_greatest_X2_at rfl rfl rfl (by decide +kernel) ⟨Nat.le_of_ble_eq_true rfl, Nat.le_of_ble_eq_true rfl⟩) (preV hK hh rfl ⟨hh, ha, hne⟩) rfl rfl hl.1 rfl (lv_room (Nat.le_of_ble_eq_true rfl)) dX2_greatest_29 ⟨Nat.le_of_ble_eq_true rfl, Nat.le_of_ble_eq_true rfl⟩).run (fun r3 hr3 => ?_)
        subst hr3
        refine va_mmax hx hb (hml.trans hl.1.symm) hown (hts (.methodLink RX2 21 Lib.Math.max.name) (by decide +kernel)) (hts (.static Lib.Math.max.name) (by decide +kernel)) (hts (.initialized "java/lang/Math") (by decide +kernel)) (hts (.code Lib.Math.max.name Lib.Math.max.code 2 (some .int)) (by decide +kernel)) (Nat.le_of_ble_eq_true rfl) (Nat.le_of_ble_eq_true rfl) (Nat.le_of_ble_eq_true rfl) (Nat.le_of_ble_eq_true rfl) dX2_greatest_32 ?_
        refine lv_istore_n (lv' := [(3, .int (jmax (grtV f lo i) (atV f (nI (lo + i))))), (4, .int (nI (lo + i))), (0, .ref h), (1, .int first), (2, .int last)]) hx hb dX2_greatest_35 rfl hl (by decide) rfl (fun ls hl => ?_)
        refine lv_iinc (v := nI (lo + i + 1)) (lv' := [(4, .int (nI (lo + i + 1))), (3, .int (jmax (grtV f lo i) (atV f (nI (lo + i))))), (0, .ref h), (1, .int first), (2, .int last)]) hx hb dX2_greatest_36 hl (k := 1) rfl (inc_1 _) (by decide) rfl (fun ls hl => ?_)
        refine lv_goto (tgt := 11) hx hb dX2_greatest_39 (by decide) ?_
        have e4 : nI (lo + i + 1) = nI (lo + (i + 1)) := by rfl
        have e5 : jmax (grtV f lo i) (atV f (nI (lo + i))) = grtV f lo (i + 1) := by (rw [grtV_s])
        exact hnext _ _ _ ⟨rfl, rfl, lv_sub (lv_ex (lv_ex hl 0 rfl (congrArg Value.int e4)) 1 rfl (congrArg Value.int e5)) [0, 1, 2, 3, 4] rfl⟩
  · skip
    intro H locs ls hin9
    obtain ⟨rfl, rfl, hl⟩ := hin9
    refine lv_iload hx hb dX2_greatest_11 (lv_at hl 0 rfl) ?_
    refine lv_iload_n hx hb dX2_greatest_13 rfl (lv_at hl 4 rfl) ?_
    refine lv_icmp_gt (tgt := 42) hx hb dX2_greatest_14 (by decide) (fun c14 => ?_) (fun c14 => ?_)
    · skip
      have c14 : hi ≤ lo + (min hi 201 - lo) := (lt_pred hla (by omega)).mp c14
      refine lv_iload_n hx hb dX2_greatest_42 rfl (lv_at hl 1 rfl) ?_
      exact W.iret (v := grtV f lo (min hi 201 - lo)) hx hb hr (fun t ht _ => ⟨grtV f lo (min hi 201 - lo), rfl, by rfl, ht⟩) (fun q hq => absurd hq List.not_mem_nil) dX2_greatest_43
    · skip
      have c14 : ¬ (hi ≤ lo + (min hi 201 - lo)) := fun q9 => c14 ((lt_pred hla (by omega)).mpr q9)
      refine lv_iload hx hb dX2_greatest_17 (lv_at hl 0 rfl) ?_
      refine lv_sipush (v := nI 201) hx hb dX2_greatest_19 (by decide) ?_
      refine lv_icmp_ge (tgt := 42) hx hb dX2_greatest_22 (by decide) (fun c22 => ?_) (fun c22 => ?_)
      · skip
        have c22 : 201 ≤ lo + (min hi 201 - lo) := (nc_le (a := 201) (b := lo + (min hi 201 - lo)) (by omega) (by omega)).mp c22
        refine lv_iload_n hx hb dX2_greatest_42 rfl (lv_at hl 1 rfl) ?_
        exact W.iret (v := grtV f lo (min hi 201 - lo)) hx hb hr (fun t ht _ => ⟨grtV f lo (min hi 201 - lo), rfl, by rfl, ht⟩) (fun q hq => absurd hq List.not_mem_nil) dX2_greatest_43
      · skip
        have c22 : ¬ (201 ≤ lo + (min hi 201 - lo)) := fun q9 => c22 ((nc_le (a := 201) (b := lo + (min hi 201 - lo)) (by omega) (by omega)).mpr q9)
        omega

set_option maxHeartbeats 4000000 in
set_option maxRecDepth 100000 in
theorem conX2_least (l : Launch) (D : va_G) (T : Nat → ClassId) (h a : Nat) (f : Nat → Int32) (lo hi : Nat) (first last : Int32) (hlo : lo < 2 ^ 30) (hhi : hi < 2 ^ 30) (hfi : jmax first (nI 0) = nI lo) (hla : last.toInt + 1 = (hi : Int)) : Met l yX2_least wsX2_least ({ frames := 1, cells := 0, slots := 0, locals := 21 }) (cP D T [.ref h, .int first, .int last] (fun H => SF D T h a f H)) (vp_Si (fun r => r = lstV f lo (min hi 201 - lo))) 0 0 (fun _ => False) := by
  refine Met.ofW (cc := cX2_least) (maxL := 5) (ret := (some .int)) (by decide) rfl ?_
  intro p e s m args below meth c s₁ B hml hv9
  obtain ⟨rfl, hK, hh, ha, hne⟩ := hv9
  have hx := B.exec
  have hb := B.bytes
  have hr := B.returns
  have hts := atoms_spec (ws := wsX2_least) B.pre
  have hown : s.vm.findClass RX2 = some m.cls := findClass_of_methodNamed B.named
  have hlocks := B.notSynchronized
  have hl := lv_entry ([.ref h, .int first, .int last]) (n := 5) (Nat.le_of_ble_eq_true rfl)
  rw [lg_entry_eq]
  generalize (lg_sl ([.ref h, .int first, .int last]) ++ List.replicate (5 - (lg_sl ([.ref h, .int first, .int last])).length) Slot.unset).toArray = ls at hl ⊢
  have hl : lv_has ls 5 [(0, .ref h), (1, .int first), (2, .int last)] := hl
  refine lv_sipush (v := nI 10000) hx hb dX2_least_0 (by decide) ?_
  refine lv_istore_n (lv' := [(3, .int (nI 10000)), (0, .ref h), (1, .int first), (2, .int last)]) hx hb dX2_least_3 rfl hl (by decide) rfl (fun ls hl => ?_)
  refine lv_iload_n hx hb dX2_least_4 rfl (lv_at hl 2 rfl) ?_
  refine lv_iconst (v := nI 0) hx hb dX2_least_5 (by decide) ?_
  refine va_mmax hx hb (hml.trans hl.1.symm) hown (hts (.methodLink RX2 21 Lib.Math.max.name) (by decide +kernel)) (hts (.static Lib.Math.max.name) (by decide +kernel)) (hts (.initialized "java/lang/Math") (by decide +kernel)) (hts (.code Lib.Math.max.name Lib.Math.max.code 2 (some .int)) (by decide +kernel)) (Nat.le_of_ble_eq_true rfl) (Nat.le_of_ble_eq_true rfl) (Nat.le_of_ble_eq_true rfl) (Nat.le_of_ble_eq_true rfl) dX2_least_6 ?_
  refine lv_istore (lv' := [(4, .int (jmax first (nI 0))), (3, .int (nI 10000)), (0, .ref h), (1, .int first), (2, .int last)]) hx hb dX2_least_9 hl (by decide) rfl (fun ls hl => ?_)
  refine q_for (fun (i : Nat) (H : Heap) (locs : List Loc) (ls : Array Slot) => H = s.heap ∧ locs = [] ∧ lv_has ls 5 [(4, .int (nI (lo + i))), (3, .int (lstV f lo i)), (0, .ref h), (1, .int first), (2, .int last)]) (N := (min hi 201 - lo)) 0 (by omega) ?_ ?_ ?_
  · skip
    have e1 : jmax first (nI 0) = nI (lo + 0) := by exact hfi
    have e2 : nI 10000 = lstV f lo 0 := by rfl
    exact ⟨rfl, rfl, lv_sub (lv_ex (lv_ex hl 0 rfl (congrArg Value.int e1)) 1 rfl (congrArg Value.int e2)) [0, 1, 2, 3, 4] rfl⟩
  · skip
    intro i H locs ls hi9 hin9 hnext
    obtain ⟨rfl, rfl, hl⟩ := hin9
    refine lv_iload hx hb dX2_least_11 (lv_at hl 0 rfl) ?_
    refine lv_iload_n hx hb dX2_least_13 rfl (lv_at hl 4 rfl) ?_
    refine lv_icmp_gt (tgt := 42) hx hb dX2_least_14 (by decide) (fun c14 => ?_) (fun c14 => ?_)
    · skip
      have c14 : hi ≤ lo + i := (lt_pred hla (by omega)).mp c14
      omega
    · skip
      have c14 : ¬ (hi ≤ lo + i) := fun q9 => c14 ((lt_pred hla (by omega)).mpr q9)
      refine lv_iload hx hb dX2_least_17 (lv_at hl 0 rfl) ?_
      refine lv_sipush (v := nI 201) hx hb dX2_least_19 (by decide) ?_
      refine lv_icmp_ge (tgt := 42) hx hb dX2_least_22 (by decide) (fun c22 => ?_) (fun c22 => ?_)
      · skip
        have c22 : 201 ≤ lo + i := (nc_le (a := 201) (b := lo + i) (by omega) (by omega)).mp c22
        omega
      · skip
        have c22 : ¬ (201 ≤ lo + i) := fun q9 => c22 ((nc_le (a := 201) (b := lo + i) (by omega) (by omega)).mpr q9)
        refine lv_iload_n hx hb dX2_least_25 rfl (lv_at hl 1 rfl) ?_
        refine lv_aload_n hx hb dX2_least_26 rfl (lv_at hl 2 rfl) ?_
        refine lv_iload hx hb dX2_least_27 (lv_at hl 0 rfl) ?_
        refine vp_callSi (va_runV (As := [.int (nI (lo + i))]) (rest := [.int (lstV f lo i)]) ⟨hx, hb, hml, hown, hts⟩ (conX2_at l D T h a f (nI (lo + i))) (cwV 1 hts gX2_least_X2_at rfl rfl rfl (by decide +kernel) ⟨Nat.le_of_ble_eq_true rfl, Nat.le_of_ble_eq_true rfl⟩) (preV hK hh rfl ⟨hh, ha, hne⟩) rfl rfl hl.1 rfl (lv_room (Nat.le_of_ble_eq_true rfl)) dX2_least_29 ⟨Nat.le_of_ble_eq_true rfl, Nat.le_of_ble_eq_true rfl⟩).run (fun r3 hr3 => ?_)
        subst hr3
        refine va_mmin hx hb (hml.trans hl.1.symm) hown (hts (.methodLink RX2 15 Lib.Math.min.name) (by decide +kernel)) (hts (.static Lib.Math.min.name) (by decide +kernel)) (hts (.initialized "java/lang/Math") (by decide +kernel)) (hts (.code Lib.Math.min.name Lib.Math.min.code 2 (some .int)) (by decide +kernel)) (Nat.le_of_ble_eq_true rfl) (Nat.le_of_ble_eq_true rfl) (Nat.le_of_ble_eq_true rfl) (Nat.le_of_ble_eq_true rfl) dX2_least_32 ?_
        refine lv_istore_n (lv' := [(3, .int (jmin (lstV f lo i) (atV f (nI (lo + i))))), (4, .int (nI (lo + i))), (0, .ref h), (1, .int first), (2, .int last)]) hx hb dX2_least_35 rfl hl (by decide) rfl (fun ls hl => ?_)
        refine lv_iinc (v := nI (lo + i + 1)) (lv' := [(4, .int (nI (lo + i + 1))), (3, .int (jmin (lstV f lo i) (atV f (nI (lo + i))))), (0, .ref h), (1, .int first), (2, .int last)]) hx hb dX2_least_36 hl (k := 1) rfl (inc_1 _) (by decide) rfl (fun ls hl => ?_)
        refine lv_goto (tgt := 11) hx hb dX2_least_39 (by decide) ?_
        have e4 : nI (lo + i + 1) = nI (lo + (i + 1)) := by rfl
        have e5 : jmin (lstV f lo i) (atV f (nI (lo + i))) = lstV f lo (i + 1) := by (rw [lstV_s])
        exact hnext _ _ _ ⟨rfl, rfl, lv_sub (lv_ex (lv_ex hl 0 rfl (congrArg Value.int e4)) 1 rfl (congrArg Value.int e5)) [0, 1, 2, 3, 4] rfl⟩
  · skip
    intro H locs ls hin9
    obtain ⟨rfl, rfl, hl⟩ := hin9
    refine lv_iload hx hb dX2_least_11 (lv_at hl 0 rfl) ?_
    refine lv_iload_n hx hb dX2_least_13 rfl (lv_at hl 4 rfl) ?_
    refine lv_icmp_gt (tgt := 42) hx hb dX2_least_14 (by decide) (fun c14 => ?_) (fun c14 => ?_)
    · skip
      have c14 : hi ≤ lo + (min hi 201 - lo) := (lt_pred hla (by omega)).mp c14
      refine lv_iload_n hx hb dX2_least_42 rfl (lv_at hl 1 rfl) ?_
      exact W.iret (v := lstV f lo (min hi 201 - lo)) hx hb hr (fun t ht _ => ⟨lstV f lo (min hi 201 - lo), rfl, by rfl, ht⟩) (fun q hq => absurd hq List.not_mem_nil) dX2_least_43
    · skip
      have c14 : ¬ (hi ≤ lo + (min hi 201 - lo)) := fun q9 => c14 ((lt_pred hla (by omega)).mpr q9)
      refine lv_iload hx hb dX2_least_17 (lv_at hl 0 rfl) ?_
      refine lv_sipush (v := nI 201) hx hb dX2_least_19 (by decide) ?_
      refine lv_icmp_ge (tgt := 42) hx hb dX2_least_22 (by decide) (fun c22 => ?_) (fun c22 => ?_)
      · skip
        have c22 : 201 ≤ lo + (min hi 201 - lo) := (nc_le (a := 201) (b := lo + (min hi 201 - lo)) (by omega) (by omega)).mp c22
        refine lv_iload_n hx hb dX2_least_42 rfl (lv_at hl 1 rfl) ?_
        exact W.iret (v := lstV f lo (min hi 201 - lo)) hx hb hr (fun t ht _ => ⟨lstV f lo (min hi 201 - lo), rfl, by rfl, ht⟩) (fun q hq => absurd hq List.not_mem_nil) dX2_least_43
      · skip
        have c22 : ¬ (201 ≤ lo + (min hi 201 - lo)) := fun q9 => c22 ((nc_le (a := 201) (b := lo + (min hi 201 - lo)) (by omega) (by omega)).mpr q9)
        omega

set_option maxHeartbeats 4000000 in
set_option maxRecDepth 100000 in
theorem conX2_firstGreatest (l : Launch) (D : va_G) (T : Nat → ClassId) (h a : Nat) (f : Nat → Int32) : Met l yX2_firstGreatest wsX2_firstGreatest ({ frames := 1, cells := 0, slots := 0, locals := 21 }) (cP D T [.ref h] (fun H => SF D T h a f H)) (vp_Si (fun r => r = fgrV f 200)) 0 0 (fun _ => False) := by
  refine Met.ofW (cc := cX2_firstGreatest) (maxL := 3) (ret := (some .int)) (by decide) rfl ?_
  intro p e s m args below meth c s₁ B hml hv9
  obtain ⟨rfl, hK, hh, ha, hne⟩ := hv9
  have hx := B.exec
  have hb := B.bytes
  have hr := B.returns
  have hts := atoms_spec (ws := wsX2_firstGreatest) B.pre
  have hown : s.vm.findClass RX2 = some m.cls := findClass_of_methodNamed B.named
  have hlocks := B.notSynchronized
  have hl := lv_entry ([.ref h]) (n := 3) (Nat.le_of_ble_eq_true rfl)
  rw [lg_entry_eq]
  generalize (lg_sl ([.ref h]) ++ List.replicate (3 - (lg_sl ([.ref h])).length) Slot.unset).toArray = ls at hl ⊢
  have hl : lv_has ls 3 [(0, .ref h)] := hl
  refine lv_iconst (v := nI 0) hx hb dX2_firstGreatest_0 (by decide) ?_
  refine lv_istore_n (lv' := [(1, .int (nI 0)), (0, .ref h)]) hx hb dX2_firstGreatest_1 rfl hl (by decide) rfl (fun ls hl => ?_)
  refine lv_iconst (v := nI 1) hx hb dX2_firstGreatest_2 (by decide) ?_
  refine lv_istore_n (lv' := [(2, .int (nI 1)), (1, .int (nI 0)), (0, .ref h)]) hx hb dX2_firstGreatest_3 rfl hl (by decide) rfl (fun ls hl => ?_)
  refine q_for (fun (i : Nat) (H : Heap) (locs : List Loc) (ls : Array Slot) => H = s.heap ∧ locs = [] ∧ lv_has ls 3 [(2, .int (nI (i + 1))), (1, .int (fgrV f i)), (0, .ref h)]) (N := 200) 0 (by omega) ?_ ?_ ?_
  · skip
    have e1 : nI 0 = fgrV f 0 := by rfl
    exact ⟨rfl, rfl, lv_sub (lv_ex hl 1 rfl (congrArg Value.int e1)) [0, 1, 2] rfl⟩
  · skip
    intro i H locs ls hi9 hin9 hnext
    obtain ⟨rfl, rfl, hl⟩ := hin9
    refine lv_iload_n hx hb dX2_firstGreatest_4 rfl (lv_at hl 0 rfl) ?_
    refine lv_sipush (v := nI 201) hx hb dX2_firstGreatest_5 (by decide) ?_
    refine lv_icmp_ge (tgt := 32) hx hb dX2_firstGreatest_8 (by decide) (fun c8 => ?_) (fun c8 => ?_)
    · skip
      have c8 : 201 ≤ i + 1 := (nc_le (a := 201) (b := i + 1) (by omega) (by omega)).mp c8
      omega
    · skip
      have c8 : ¬ (201 ≤ i + 1) := fun q9 => c8 ((nc_le (a := 201) (b := i + 1) (by omega) (by omega)).mpr q9)
      refine lv_aload_n hx hb dX2_firstGreatest_11 rfl (lv_at hl 2 rfl) ?_
      refine lv_iload_n hx hb dX2_firstGreatest_12 rfl (lv_at hl 0 rfl) ?_
      refine vp_callSi (va_runV (As := [.int (nI (i + 1))]) (rest := []) ⟨hx, hb, hml, hown, hts⟩ (conX2_at l D T h a f (nI (i + 1))) (cwV 1 hts gX2_firstGreatest_X2_at rfl rfl rfl (by decide +kernel) ⟨Nat.le_of_ble_eq_true rfl, Nat.le_of_ble_eq_true rfl⟩) (preV hK hh rfl ⟨hh, ha, hne⟩) rfl rfl hl.1 rfl (lv_room (Nat.le_of_ble_eq_true rfl)) dX2_firstGreatest_13 ⟨Nat.le_of_ble_eq_true rfl, Nat.le_of_ble_eq_true rfl⟩).run (fun r2 hr2 => ?_)
      subst hr2
      refine lv_aload_n hx hb dX2_firstGreatest_16 rfl (lv_at hl 2 rfl) ?_
      refine lv_iload_n hx hb dX2_firstGreatest_17 rfl (lv_at hl 1 rfl) ?_
      refine vp_callSi (va_runV (As := [.int (fgrV f i)]) (rest := [.int (atV f (nI (i + 1)))]) ⟨hx, hb, hml, hown, hts⟩ (conX2_at l D T h a f (fgrV f i)) (cwV 1 hts gX2_firstGreatest_X2_at rfl rfl rfl (by decide +kernel) ⟨Nat.le_of_ble_eq_true rfl, Nat.le_of_ble_eq_true rfl⟩) (preV hK hh rfl ⟨hh, ha, hne⟩) rfl rfl hl.1 rfl (lv_room (Nat.le_of_ble_eq_true rfl)) dX2_firstGreatest_18 ⟨Nat.le_of_ble_eq_true rfl, Nat.le_of_ble_eq_true rfl⟩).run (fun r3 hr3 => ?_)
      subst hr3
      refine lv_icmp_le (tgt := 26) hx hb dX2_firstGreatest_21 (by decide) (fun c21 => ?_) (fun c21 => ?_)
      · skip
        refine lv_iinc (v := nI (i + 1 + 1)) (lv' := [(2, .int (nI (i + 1 + 1))), (1, .int (fgrV f i)), (0, .ref h)]) hx hb dX2_firstGreatest_26 hl (k := 0) rfl (inc_1 _) (by decide) rfl (fun ls hl => ?_)
        refine lv_goto (tgt := 4) hx hb dX2_firstGreatest_29 (by decide) ?_
        have e4 : nI (i + 1 + 1) = nI ((i + 1) + 1) := by rfl
        have e5 : fgrV f i = fgrV f (i + 1) := by first | (rw [fgrV_s, if_pos c21]; done) | (rw [fgrV_s, if_neg c21]; done)
        exact hnext _ _ _ ⟨rfl, rfl, lv_sub (lv_ex (lv_ex hl 0 rfl (congrArg Value.int e4)) 1 rfl (congrArg Value.int e5)) [0, 1, 2] rfl⟩
      · skip
        refine lv_iload_n hx hb dX2_firstGreatest_24 rfl (lv_at hl 0 rfl) ?_
        refine lv_istore_n (lv' := [(1, .int (nI (i + 1))), (2, .int (nI (i + 1))), (0, .ref h)]) hx hb dX2_firstGreatest_25 rfl hl (by decide) rfl (fun ls hl => ?_)
        refine lv_iinc (v := nI (i + 1 + 1)) (lv' := [(2, .int (nI (i + 1 + 1))), (1, .int (nI (i + 1))), (0, .ref h)]) hx hb dX2_firstGreatest_26 hl (k := 1) rfl (inc_1 _) (by decide) rfl (fun ls hl => ?_)
        refine lv_goto (tgt := 4) hx hb dX2_firstGreatest_29 (by decide) ?_
        have e6 : nI (i + 1 + 1) = nI ((i + 1) + 1) := by rfl
        have e7 : nI (i + 1) = fgrV f (i + 1) := by first | (rw [fgrV_s, if_pos c21]; done) | (rw [fgrV_s, if_neg c21]; done)
        exact hnext _ _ _ ⟨rfl, rfl, lv_sub (lv_ex (lv_ex hl 0 rfl (congrArg Value.int e6)) 1 rfl (congrArg Value.int e7)) [0, 1, 2] rfl⟩
  · skip
    intro H locs ls hin9
    obtain ⟨rfl, rfl, hl⟩ := hin9
    refine lv_iload_n hx hb dX2_firstGreatest_4 rfl (lv_at hl 0 rfl) ?_
    refine lv_sipush (v := nI 201) hx hb dX2_firstGreatest_5 (by decide) ?_
    refine lv_icmp_ge (tgt := 32) hx hb dX2_firstGreatest_8 (by decide) (fun c8 => ?_) (fun c8 => ?_)
    · skip
      have c8 : 201 ≤ 201 := (nc_le (a := 201) (b := 201) (by omega) (by omega)).mp c8
      refine lv_iload_n hx hb dX2_firstGreatest_32 rfl (lv_at hl 1 rfl) ?_
      exact W.iret (v := fgrV f 200) hx hb hr (fun t ht _ => ⟨fgrV f 200, rfl, by rfl, ht⟩) (fun q hq => absurd hq List.not_mem_nil) dX2_firstGreatest_33
    · skip
      have c8 : ¬ (201 ≤ 201) := fun q9 => c8 ((nc_le (a := 201) (b := 201) (by omega) (by omega)).mpr q9)
      omega

set_option maxHeartbeats 4000000 in
set_option maxRecDepth 100000 in
theorem conX2_negate (l : Launch) (D : va_G) (T : Nat → ClassId) (h a : Nat) (f : Nat → Int32) : Met l yX2_negate wsX2_negate ({ frames := 2, cells := 0, slots := 0, locals := 38 }) (cP D T [.ref h] (fun H => SF D T h a f H)) (va_Qv (fun (_ : Unit) => True) (fun _ t => pAt D t.heap a (eN (T 1) 201 (negV f 201))) (fun q : Nat => q = a)) 0 0 (fun q : Nat => q = a) := by
  refine Met.ofW (cc := cX2_negate) (maxL := 2) (ret := none) (by decide) rfl ?_
  intro p e s m args below meth c s₁ B hml hv9
  obtain ⟨rfl, hK, hh, ha, hne⟩ := hv9
  have hx := B.exec
  have hb := B.bytes
  have hr := B.returns
  have hts := atoms_spec (ws := wsX2_negate) B.pre
  have hown : s.vm.findClass RX2 = some m.cls := findClass_of_methodNamed B.named
  have hlocks := B.notSynchronized
  generalize hAe : (fun q : Nat => q = a) = A
  have hA_a : A a := by subst hAe; first | rfl | exact Or.inl rfl | exact Or.inr rfl | (simp; done)
  have hS : va_S A s.heap s.heap [] := va_S.rf
  have hl := lv_entry ([.ref h]) (n := 2) (Nat.le_of_ble_eq_true rfl)
  rw [lg_entry_eq]
  generalize (lg_sl ([.ref h]) ++ List.replicate (2 - (lg_sl ([.ref h])).length) Slot.unset).toArray = ls at hl ⊢
  have hl : lv_has ls 2 [(0, .ref h)] := hl
  refine lv_iconst (v := nI 0) hx hb dX2_negate_0 (by decide) ?_
  refine lv_istore_n (lv' := [(1, .int (nI 0)), (0, .ref h)]) hx hb dX2_negate_1 rfl hl (by decide) rfl (fun ls hl => ?_)
  refine q_for (fun (i : Nat) (H : Heap) (locs : List Loc) (ls : Array Slot) => va_S A s.heap H locs ∧ lv_has ls 2 [(1, .int (nI i)), (0, .ref h)] ∧ pAt D H h (eO 2 [.ref a]) ∧ pAt D H a (eN (T 1) 201 (negV f i))) (N := 201) 0 (by omega) ?_ ?_ ?_
  · skip
    have e1 : (eN (T 1) 201 f) = (eN (T 1) 201 (negV f 0)) := by rfl
    exact ⟨hS, lv_sub hl [0, 1] rfl, hh, (by rw [← e1]; exact ha)⟩
  · skip
    intro i H locs ls hi9 hin9 hnext
    obtain ⟨hS, hl, hh, ha⟩ := hin9
    refine lv_iload_n hx hb dX2_negate_2 rfl (lv_at hl 0 rfl) ?_
    refine lv_sipush (v := nI 201) hx hb dX2_negate_3 (by decide) ?_
    refine lv_icmp_ge (tgt := 26) hx hb dX2_negate_6 (by decide) (fun c6 => ?_) (fun c6 => ?_)
    · skip
      have c6 : 201 ≤ i := (nc_le (a := 201) (b := i) (by omega) (by omega)).mp c6
      omega
    · skip
      have c6 : ¬ (201 ≤ i) := fun q9 => c6 ((nc_le (a := 201) (b := i) (by omega) (by omega)).mpr q9)
      refine lv_aload_n hx hb dX2_negate_9 rfl (lv_at hl 1 rfl) ?_
      refine lv_iload_n hx hb dX2_negate_10 rfl (lv_at hl 0 rfl) ?_
      refine lv_aload_n hx hb dX2_negate_11 rfl (lv_at hl 1 rfl) ?_
      refine lv_iload_n hx hb dX2_negate_12 rfl (lv_at hl 0 rfl) ?_
      refine vp_callSi (va_runV (As := [.int (nI i)]) (rest := [.int (nI i), .ref h]) ⟨hx, hb, hml, hown, hts⟩ (conX2_at l D T h a (negV f i) (nI i)) (cwV 1 hts gX2_negate_X2_at rfl rfl rfl (by decide +kernel) ⟨Nat.le_of_ble_eq_true rfl, Nat.le_of_ble_eq_true rfl⟩) (preV hK hh rfl ⟨hh, ha, hne⟩) rfl rfl hl.1 rfl (lv_room (Nat.le_of_ble_eq_true rfl)) dX2_negate_13 ⟨Nat.le_of_ble_eq_true rfl, Nat.le_of_ble_eq_true rfl⟩).run (fun r2 hr2 => ?_)
      subst hr2
      refine lv_ineg hx hb dX2_negate_16 ?_
      refine va_callv (va_runV (As := [.int (nI i), .int (-(atV (negV f i) (nI i)))]) (rest := []) ⟨hx, hb, hml, hown, hts⟩ (conX2_write l D T h a (negV f i) (nI i) (-(atV (negV f i) (nI i)))) (cwV 2 hts gX2_negate_X2_write rfl rfl rfl (by decide +kernel) ⟨Nat.le_of_ble_eq_true rfl, Nat.le_of_ble_eq_true rfl⟩) (preV hK hh rfl ⟨hh, ha, hne⟩) rfl rfl hl.1 rfl (lv_room (Nat.le_of_ble_eq_true rfl)) dX2_negate_17 ⟨Nat.le_of_ble_eq_true rfl, Nat.le_of_ble_eq_true rfl⟩) hS (fun q _ h9 => (by have h8 : q = a := h9; rw [h8]; exact hA_a)) (fun q h9 => (by have h8 : q = a := h9; rw [h8]; exact hA_a)) (fun u t H1 locs1 ht hvm hw9 hB hz1 hk1 hS => ?_)
      try dsimp only at hB
      rw [ht] at hB
      replace hh := hh.kept (hk1 _ hh.lt (fun h9 => hne h9))
      have ha := hB
      refine lv_iinc (v := nI (i + 1)) (lv' := [(1, .int (nI (i + 1))), (0, .ref h)]) hx hb dX2_negate_20 hl (k := 0) rfl (inc_1 _) (by decide) rfl (fun ls hl => ?_)
      refine lv_goto (tgt := 2) hx hb dX2_negate_23 (by decide) ?_
      have e3 : (eN (T 1) 201 (wrV (negV f i) (nI i) (-(atV (negV f i) (nI i))))) = (eN (T 1) 201 (negV f (i + 1))) := by (rw [negV_s])
      exact hnext _ _ _ ⟨hS, lv_sub hl [0, 1] rfl, hh, (by rw [← e3]; exact ha)⟩
  · skip
    intro H locs ls hin9
    obtain ⟨hS, hl, hh, ha⟩ := hin9
    refine lv_iload_n hx hb dX2_negate_2 rfl (lv_at hl 0 rfl) ?_
    refine lv_sipush (v := nI 201) hx hb dX2_negate_3 (by decide) ?_
    refine lv_icmp_ge (tgt := 26) hx hb dX2_negate_6 (by decide) (fun c6 => ?_) (fun c6 => ?_)
    · skip
      have c6 : 201 ≤ 201 := (nc_le (a := 201) (b := 201) (by omega) (by omega)).mp c6
      exact W.vret hx hb hr (fun t ht _ => ⟨⟨(), rfl, trivial, by dsimp only; rw [ht]; exact ha⟩, hS.F ht⟩) hS.2.2 dX2_negate_26
    · skip
      have c6 : ¬ (201 ≤ 201) := fun q9 => c6 ((nc_le (a := 201) (b := 201) (by omega) (by omega)).mpr q9)
      omega

set_option maxHeartbeats 4000000 in
set_option maxRecDepth 100000 in
theorem conX2_climbFromLeft (l : Launch) (D : va_G) (T : Nat → ClassId) (h a : Nat) (f : Nat → Int32) : Met l yX2_climbFromLeft wsX2_climbFromLeft ({ frames := 2, cells := 0, slots := 0, locals := 38 }) (cP D T [.ref h] (fun H => SF D T h a f H)) (va_Qv (fun (_ : Unit) => True) (fun _ t => pAt D t.heap a (eN (T 1) 201 (cliV f 200))) (fun q : Nat => q = a)) 0 0 (fun q : Nat => q = a) := by
  refine Met.ofW (cc := cX2_climbFromLeft) (maxL := 2) (ret := none) (by decide) rfl ?_
  intro p e s m args below meth c s₁ B hml hv9
  obtain ⟨rfl, hK, hh, ha, hne⟩ := hv9
  have hx := B.exec
  have hb := B.bytes
  have hr := B.returns
  have hts := atoms_spec (ws := wsX2_climbFromLeft) B.pre
  have hown : s.vm.findClass RX2 = some m.cls := findClass_of_methodNamed B.named
  have hlocks := B.notSynchronized
  generalize hAe : (fun q : Nat => q = a) = A
  have hA_a : A a := by subst hAe; first | rfl | exact Or.inl rfl | exact Or.inr rfl | (simp; done)
  have hS : va_S A s.heap s.heap [] := va_S.rf
  have hl := lv_entry ([.ref h]) (n := 2) (Nat.le_of_ble_eq_true rfl)
  rw [lg_entry_eq]
  generalize (lg_sl ([.ref h]) ++ List.replicate (2 - (lg_sl ([.ref h])).length) Slot.unset).toArray = ls at hl ⊢
  have hl : lv_has ls 2 [(0, .ref h)] := hl
  refine lv_iconst (v := nI 1) hx hb dX2_climbFromLeft_0 (by decide) ?_
  refine lv_istore_n (lv' := [(1, .int (nI 1)), (0, .ref h)]) hx hb dX2_climbFromLeft_1 rfl hl (by decide) rfl (fun ls hl => ?_)
  refine q_for (fun (i : Nat) (H : Heap) (locs : List Loc) (ls : Array Slot) => va_S A s.heap H locs ∧ lv_has ls 2 [(1, .int (nI (i + 1))), (0, .ref h)] ∧ pAt D H h (eO 2 [.ref a]) ∧ pAt D H a (eN (T 1) 201 (cliV f i))) (N := 200) 0 (by omega) ?_ ?_ ?_
  · skip
    have e1 : (eN (T 1) 201 f) = (eN (T 1) 201 (cliV f 0)) := by rfl
    exact ⟨hS, lv_sub hl [0, 1] rfl, hh, (by rw [← e1]; exact ha)⟩
  · skip
    intro i H locs ls hi9 hin9 hnext
    obtain ⟨hS, hl, hh, ha⟩ := hin9
    refine lv_iload_n hx hb dX2_climbFromLeft_2 rfl (lv_at hl 0 rfl) ?_
    refine lv_sipush (v := nI 201) hx hb dX2_climbFromLeft_3 (by decide) ?_
    refine lv_icmp_ge (tgt := 35) hx hb dX2_climbFromLeft_6 (by decide) (fun c6 => ?_) (fun c6 => ?_)
    · skip
      have c6 : 201 ≤ i + 1 := (nc_le (a := 201) (b := i + 1) (by omega) (by omega)).mp c6
      omega
    · skip
      have c6 : ¬ (201 ≤ i + 1) := fun q9 => c6 ((nc_le (a := 201) (b := i + 1) (by omega) (by omega)).mpr q9)
      refine lv_aload_n hx hb dX2_climbFromLeft_9 rfl (lv_at hl 1 rfl) ?_
      refine lv_iload_n hx hb dX2_climbFromLeft_10 rfl (lv_at hl 0 rfl) ?_
      refine lv_aload_n hx hb dX2_climbFromLeft_11 rfl (lv_at hl 1 rfl) ?_
      refine lv_iload_n hx hb dX2_climbFromLeft_12 rfl (lv_at hl 0 rfl) ?_
      refine vp_callSi (va_runV (As := [.int (nI (i + 1))]) (rest := [.int (nI (i + 1)), .ref h]) ⟨hx, hb, hml, hown, hts⟩ (conX2_at l D T h a (cliV f i) (nI (i + 1))) (cwV 1 hts gX2_climbFromLeft_X2_at rfl rfl rfl (by decide +kernel) ⟨Nat.le_of_ble_eq_true rfl, Nat.le_of_ble_eq_true rfl⟩) (preV hK hh rfl ⟨hh, ha, hne⟩) rfl rfl hl.1 rfl (lv_room (Nat.le_of_ble_eq_true rfl)) dX2_climbFromLeft_13 ⟨Nat.le_of_ble_eq_true rfl, Nat.le_of_ble_eq_true rfl⟩).run (fun r2 hr2 => ?_)
      subst hr2
      refine lv_aload_n hx hb dX2_climbFromLeft_16 rfl (lv_at hl 1 rfl) ?_
      refine lv_iload_n hx hb dX2_climbFromLeft_17 rfl (lv_at hl 0 rfl) ?_
      refine lv_iconst (v := nI 1) hx hb dX2_climbFromLeft_18 (by decide) ?_
      refine lv_isub hx hb dX2_climbFromLeft_19 ?_
      refine vp_callSi (va_runV (As := [.int ((nI (i + 1)) - (nI 1))]) (rest := [.int (atV (cliV f i) (nI (i + 1))), .int (nI (i + 1)), .ref h]) ⟨hx, hb, hml, hown, hts⟩ (conX2_at l D T h a (cliV f i) ((nI (i + 1)) - (nI 1))) (cwV 1 hts gX2_climbFromLeft_X2_at rfl rfl rfl (by decide +kernel) ⟨Nat.le_of_ble_eq_true rfl, Nat.le_of_ble_eq_true rfl⟩) (preV hK hh rfl ⟨hh, ha, hne⟩) rfl rfl hl.1 rfl (lv_room (Nat.le_of_ble_eq_true rfl)) dX2_climbFromLeft_20 ⟨Nat.le_of_ble_eq_true rfl, Nat.le_of_ble_eq_true rfl⟩).run (fun r3 hr3 => ?_)
      subst hr3
      refine va_mmax hx hb (hml.trans hl.1.symm) hown (hts (.methodLink RX2 21 Lib.Math.max.name) (by decide +kernel)) (hts (.static Lib.Math.max.name) (by decide +kernel)) (hts (.initialized "java/lang/Math") (by decide +kernel)) (hts (.code Lib.Math.max.name Lib.Math.max.code 2 (some .int)) (by decide +kernel)) (Nat.le_of_ble_eq_true rfl) (Nat.le_of_ble_eq_true rfl) (Nat.le_of_ble_eq_true rfl) (Nat.le_of_ble_eq_true rfl) dX2_climbFromLeft_23 ?_
      refine va_callv (va_runV (As := [.int (nI (i + 1)), .int (jmax (atV (cliV f i) (nI (i + 1))) (atV (cliV f i) ((nI (i + 1)) - (nI 1))))]) (rest := []) ⟨hx, hb, hml, hown, hts⟩ (conX2_write l D T h a (cliV f i) (nI (i + 1)) (jmax (atV (cliV f i) (nI (i + 1))) (atV (cliV f i) ((nI (i + 1)) - (nI 1))))) (cwV 2 hts gX2_climbFromLeft_X2_write rfl rfl rfl (by decide +kernel) ⟨Nat.le_of_ble_eq_true rfl, Nat.le_of_ble_eq_true rfl⟩) (preV hK hh rfl ⟨hh, ha, hne⟩) rfl rfl hl.1 rfl (lv_room (Nat.le_of_ble_eq_true rfl)) dX2_climbFromLeft_26 ⟨Nat.le_of_ble_eq_true rfl, Nat.le_of_ble_eq_true rfl⟩) hS (fun q _ h9 => (by have h8 : q = a := h9; rw [h8]; exact hA_a)) (fun q h9 => (by have h8 : q = a := h9; rw [h8]; exact hA_a)) (fun u t H1 locs1 ht hvm hw9 hB hz1 hk1 hS => ?_)
      try dsimp only at hB
      rw [ht] at hB
      replace hh := hh.kept (hk1 _ hh.lt (fun h9 => hne h9))
      have ha := hB
      refine lv_iinc (v := nI (i + 1 + 1)) (lv' := [(1, .int (nI (i + 1 + 1))), (0, .ref h)]) hx hb dX2_climbFromLeft_29 hl (k := 0) rfl (inc_1 _) (by decide) rfl (fun ls hl => ?_)
      refine lv_goto (tgt := 2) hx hb dX2_climbFromLeft_32 (by decide) ?_
      have e4 : nI (i + 1 + 1) = nI ((i + 1) + 1) := by rfl
      have e5 : (eN (T 1) 201 (wrV (cliV f i) (nI (i + 1)) (jmax (atV (cliV f i) (nI (i + 1))) (atV (cliV f i) ((nI (i + 1)) - (nI 1)))))) = (eN (T 1) 201 (cliV f (i + 1))) := by (rw [cliV_s])
      exact hnext _ _ _ ⟨hS, lv_sub (lv_ex hl 0 rfl (congrArg Value.int e4)) [0, 1] rfl, hh, (by rw [← e5]; exact ha)⟩
  · skip
    intro H locs ls hin9
    obtain ⟨hS, hl, hh, ha⟩ := hin9
    refine lv_iload_n hx hb dX2_climbFromLeft_2 rfl (lv_at hl 0 rfl) ?_
    refine lv_sipush (v := nI 201) hx hb dX2_climbFromLeft_3 (by decide) ?_
    refine lv_icmp_ge (tgt := 35) hx hb dX2_climbFromLeft_6 (by decide) (fun c6 => ?_) (fun c6 => ?_)
    · skip
      have c6 : 201 ≤ 201 := (nc_le (a := 201) (b := 201) (by omega) (by omega)).mp c6
      exact W.vret hx hb hr (fun t ht _ => ⟨⟨(), rfl, trivial, by dsimp only; rw [ht]; exact ha⟩, hS.F ht⟩) hS.2.2 dX2_climbFromLeft_35
    · skip
      have c6 : ¬ (201 ≤ 201) := fun q9 => c6 ((nc_le (a := 201) (b := 201) (by omega) (by omega)).mpr q9)
      omega

set_option maxHeartbeats 4000000 in
set_option maxRecDepth 100000 in
theorem conX2_climbFromRight (l : Launch) (D : va_G) (T : Nat → ClassId) (h a : Nat) (f : Nat → Int32) : Met l yX2_climbFromRight wsX2_climbFromRight ({ frames := 2, cells := 0, slots := 0, locals := 38 }) (cP D T [.ref h] (fun H => SF D T h a f H)) (va_Qv (fun (_ : Unit) => True) (fun _ t => pAt D t.heap a (eN (T 1) 201 (criV f 200))) (fun q : Nat => q = a)) 0 0 (fun q : Nat => q = a) := by
  refine Met.ofW (cc := cX2_climbFromRight) (maxL := 2) (ret := none) (by decide) rfl ?_
  intro p e s m args below meth c s₁ B hml hv9
  obtain ⟨rfl, hK, hh, ha, hne⟩ := hv9
  have hx := B.exec
  have hb := B.bytes
  have hr := B.returns
  have hts := atoms_spec (ws := wsX2_climbFromRight) B.pre
  have hown : s.vm.findClass RX2 = some m.cls := findClass_of_methodNamed B.named
  have hlocks := B.notSynchronized
  generalize hAe : (fun q : Nat => q = a) = A
  have hA_a : A a := by subst hAe; first | rfl | exact Or.inl rfl | exact Or.inr rfl | (simp; done)
  have hS : va_S A s.heap s.heap [] := va_S.rf
  have hl := lv_entry ([.ref h]) (n := 2) (Nat.le_of_ble_eq_true rfl)
  rw [lg_entry_eq]
  generalize (lg_sl ([.ref h]) ++ List.replicate (2 - (lg_sl ([.ref h])).length) Slot.unset).toArray = ls at hl ⊢
  have hl : lv_has ls 2 [(0, .ref h)] := hl
  refine lv_sipush (v := nI 199) hx hb dX2_climbFromRight_0 (by decide) ?_
  refine lv_istore_n (lv' := [(1, .int (nI 199)), (0, .ref h)]) hx hb dX2_climbFromRight_3 rfl hl (by decide) rfl (fun ls hl => ?_)
  refine q_for (fun (i : Nat) (H : Heap) (locs : List Loc) (ls : Array Slot) => va_S A s.heap H locs ∧ lv_has ls 2 [(1, .int (dn 199 i)), (0, .ref h)] ∧ pAt D H h (eO 2 [.ref a]) ∧ pAt D H a (eN (T 1) 201 (criV f i))) (N := 200) 0 (by omega) ?_ ?_ ?_
  · skip
    have e1 : nI 199 = dn 199 0 := by exact dn_0 _
    have e2 : (eN (T 1) 201 f) = (eN (T 1) 201 (criV f 0)) := by rfl
    exact ⟨hS, lv_sub (lv_ex hl 0 rfl (congrArg Value.int e1)) [0, 1] rfl, hh, (by rw [← e2]; exact ha)⟩
  · skip
    intro i H locs ls hi9 hin9 hnext
    obtain ⟨hS, hl, hh, ha⟩ := hin9
    refine lv_iload_n hx hb dX2_climbFromRight_4 rfl (lv_at hl 0 rfl) ?_
    refine lv_if_lt (tgt := 34) hx hb dX2_climbFromRight_5 (by decide) (fun c5 => ?_) (fun c5 => ?_)
    · skip
      have c5 : 199 < i := (dn_neg (by omega) (by omega)).mp c5
      omega
    · skip
      have c5 : ¬ (199 < i) := fun q9 => c5 ((dn_neg (by omega) (by omega)).mpr q9)
      refine lv_aload_n hx hb dX2_climbFromRight_8 rfl (lv_at hl 1 rfl) ?_
      refine lv_iload_n hx hb dX2_climbFromRight_9 rfl (lv_at hl 0 rfl) ?_
      refine lv_aload_n hx hb dX2_climbFromRight_10 rfl (lv_at hl 1 rfl) ?_
      refine lv_iload_n hx hb dX2_climbFromRight_11 rfl (lv_at hl 0 rfl) ?_
      refine vp_callSi (va_runV (As := [.int (dn 199 i)]) (rest := [.int (dn 199 i), .ref h]) ⟨hx, hb, hml, hown, hts⟩ (conX2_at l D T h a (criV f i) (dn 199 i)) (cwV 1 hts gX2_climbFromRight_X2_at rfl rfl rfl (by decide +kernel) ⟨Nat.le_of_ble_eq_true rfl, Nat.le_of_ble_eq_true rfl⟩) (preV hK hh rfl ⟨hh, ha, hne⟩) rfl rfl hl.1 rfl (lv_room (Nat.le_of_ble_eq_true rfl)) dX2_climbFromRight_12 ⟨Nat.le_of_ble_eq_true rfl, Nat.le_of_ble_eq_true rfl⟩).run (fun r3 hr3 => ?_)
      subst hr3
      refine lv_aload_n hx hb dX2_climbFromRight_15 rfl (lv_at hl 1 rfl) ?_
      refine lv_iload_n hx hb dX2_climbFromRight_16 rfl (lv_at hl 0 rfl) ?_
      refine lv_iconst (v := nI 1) hx hb dX2_climbFromRight_17 (by decide) ?_
      refine lv_iadd hx hb dX2_climbFromRight_18 ?_
      refine vp_callSi (va_runV (As := [.int ((dn 199 i) + (nI 1))]) (rest := [.int (atV (criV f i) (dn 199 i)), .int (dn 199 i), .ref h]) ⟨hx, hb, hml, hown, hts⟩ (conX2_at l D T h a (criV f i) ((dn 199 i) + (nI 1))) (cwV 1 hts gX2_climbFromRight_X2_at rfl rfl rfl (by decide +kernel) ⟨Nat.le_of_ble_eq_true rfl, Nat.le_of_ble_eq_true rfl⟩) (preV hK hh rfl ⟨hh, ha, hne⟩) rfl rfl hl.1 rfl (lv_room (Nat.le_of_ble_eq_true rfl)) dX2_climbFromRight_19 ⟨Nat.le_of_ble_eq_true rfl, Nat.le_of_ble_eq_true rfl⟩).run (fun r4 hr4 => ?_)
      subst hr4
      refine va_mmax hx hb (hml.trans hl.1.symm) hown (hts (.methodLink RX2 21 Lib.Math.max.name) (by decide +kernel)) (hts (.static Lib.Math.max.name) (by decide +kernel)) (hts (.initialized "java/lang/Math") (by decide +kernel)) (hts (.code Lib.Math.max.name Lib.Math.max.code 2 (some .int)) (by decide +kernel)) (Nat.le_of_ble_eq_true rfl) (Nat.le_of_ble_eq_true rfl) (Nat.le_of_ble_eq_true rfl) (Nat.le_of_ble_eq_true rfl) dX2_climbFromRight_22 ?_
      refine va_callv (va_runV (As := [.int (dn 199 i), .int (jmax (atV (criV f i) (dn 199 i)) (atV (criV f i) ((dn 199 i) + (nI 1))))]) (rest := []) ⟨hx, hb, hml, hown, hts⟩ (conX2_write l D T h a (criV f i) (dn 199 i) (jmax (atV (criV f i) (dn 199 i)) (atV (criV f i) ((dn 199 i) + (nI 1))))) (cwV 2 hts gX2_climbFromRight_X2_write rfl rfl rfl (by decide +kernel) ⟨Nat.le_of_ble_eq_true rfl, Nat.le_of_ble_eq_true rfl⟩) (preV hK hh rfl ⟨hh, ha, hne⟩) rfl rfl hl.1 rfl (lv_room (Nat.le_of_ble_eq_true rfl)) dX2_climbFromRight_25 ⟨Nat.le_of_ble_eq_true rfl, Nat.le_of_ble_eq_true rfl⟩) hS (fun q _ h9 => (by have h8 : q = a := h9; rw [h8]; exact hA_a)) (fun q h9 => (by have h8 : q = a := h9; rw [h8]; exact hA_a)) (fun u t H1 locs1 ht hvm hw9 hB hz1 hk1 hS => ?_)
      try dsimp only at hB
      rw [ht] at hB
      replace hh := hh.kept (hk1 _ hh.lt (fun h9 => hne h9))
      have ha := hB
      refine lv_iinc (v := dn 199 (i + 1)) (lv' := [(1, .int (dn 199 (i + 1))), (0, .ref h)]) hx hb dX2_climbFromRight_28 hl (k := 0) rfl (dn_s (by omega) (by omega)) (by decide) rfl (fun ls hl => ?_)
      refine lv_goto (tgt := 4) hx hb dX2_climbFromRight_31 (by decide) ?_
      have e5 : (eN (T 1) 201 (wrV (criV f i) (dn 199 i) (jmax (atV (criV f i) (dn 199 i)) (atV (criV f i) ((dn 199 i) + (nI 1)))))) = (eN (T 1) 201 (criV f (i + 1))) := by (rw [criV_s])
      exact hnext _ _ _ ⟨hS, lv_sub hl [0, 1] rfl, hh, (by rw [← e5]; exact ha)⟩
  · skip
    intro H locs ls hin9
    obtain ⟨hS, hl, hh, ha⟩ := hin9
    refine lv_iload_n hx hb dX2_climbFromRight_4 rfl (lv_at hl 0 rfl) ?_
    refine lv_if_lt (tgt := 34) hx hb dX2_climbFromRight_5 (by decide) (fun c5 => ?_) (fun c5 => ?_)
    · skip
      have c5 : 199 < 200 := (dn_neg (by omega) (by omega)).mp c5
      exact W.vret hx hb hr (fun t ht _ => ⟨⟨(), rfl, trivial, by dsimp only; rw [ht]; exact ha⟩, hS.F ht⟩) hS.2.2 dX2_climbFromRight_34
    · skip
      have c5 : ¬ (199 < 200) := fun q9 => c5 ((dn_neg (by omega) (by omega)).mpr q9)
      omega
