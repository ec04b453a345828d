set_option maxHeartbeats 4000000 in
set_option maxRecDepth 100000 in
theorem conX3_isPoint (l : Launch) (D : va_G) (T : Nat → ClassId) (g : Int32) : Met l yX3_isPoint wsX3_isPoint ({ frames := 0, cells := 0, slots := 0, locals := 0 }) (cP D T [.int g] (fun H => True)) (vp_Si (fun r => r = ptZ g)) 0 0 (fun _ => False) := by
  refine Met.ofW (cc := cX3_isPoint) (maxL := 1) (ret := (some .boolean)) (by decide) rfl ?_
  intro p e s m args below meth c s₁ B hml hv9
  obtain ⟨rfl, hK, -⟩ := hv9
  have hx := B.exec
  have hb := B.bytes
  have hr := B.returns
  have hts := atoms_spec (ws := wsX3_isPoint) B.pre
  have hown : s.vm.findClass RX3 = some m.cls := findClass_of_methodNamed B.named
  have hlocks := B.notSynchronized
  have hl := lv_entry ([.int g]) (n := 1) (Nat.le_of_ble_eq_true rfl)
  rw [lg_entry_eq]
  generalize (lg_sl ([.int g]) ++ List.replicate (1 - (lg_sl ([.int g])).length) Slot.unset).toArray = ls at hl ⊢
  have hl : lv_has ls 1 [(0, .int g)] := hl
  refine lv_iload_n hx hb dX3_isPoint_0 rfl (lv_at hl 0 rfl) ?_
  refine lv_iconst (v := nI 1) hx hb dX3_isPoint_1 (by decide) ?_
  refine lv_iand hx hb dX3_isPoint_2 ?_
  refine lv_if_ne (tgt := 10) hx hb dX3_isPoint_3 (by decide) (fun c3 => ?_) (fun c3 => ?_)
  · skip
    refine lv_iconst (v := nI 0) hx hb dX3_isPoint_10 (by decide) ?_
    exact W.zret (v := nI 0) hx hb hr (rfl) (fun t ht _ => ⟨nI 0, rfl, by simp [ptZ, c3], ht⟩) (fun q hq => absurd hq List.not_mem_nil) dX3_isPoint_11
  · skip
    refine lv_iconst (v := nI 1) hx hb dX3_isPoint_6 (by decide) ?_
    refine lv_goto (tgt := 11) hx hb dX3_isPoint_7 (by decide) ?_
    exact W.zret (v := nI 1) hx hb hr (rfl) (fun t ht _ => ⟨nI 1, rfl, by simp [ptZ, c3], ht⟩) (fun q hq => absurd hq List.not_mem_nil) dX3_isPoint_11

set_option maxHeartbeats 4000000 in
set_option maxRecDepth 100000 in
theorem conX2_addUp (l : Launch) (D : va_G) (T : Nat → ClassId) (h a : Nat) (f : Nat → Int32) : Met l yX2_addUp wsX2_addUp ({ frames := 2, cells := 0, slots := 0, locals := 38 }) (cP D T [.ref h] (fun H => SF D T h a f H)) (va_Qv (fun (_ : Unit) => True) (fun _ t => pAt D t.heap a (eN (T 1) 201 (addV f 201).1)) (fun q : Nat => q = a)) 0 0 (fun q : Nat => q = a) := by
  refine Met.ofW (cc := cX2_addUp) (maxL := 3) (ret := none) (by decide) rfl ?_
  intro p e s m args below meth c s₁ B hml hv9
  obtain ⟨rfl, hK, hh, ha, hne⟩ := hv9
  have hx := B.exec
  have hb := B.bytes
  have hr := B.returns
  have hts := atoms_spec (ws := wsX2_addUp) B.pre
  have hown : s.vm.findClass RX2 = some m.cls := findClass_of_methodNamed B.named
  have hlocks := B.notSynchronized
  generalize hAe : (fun q : Nat => q = a) = A
  have hA_a : A a := by subst hAe; first | rfl | exact Or.inl rfl | exact Or.inr rfl | (simp; done)
  have hS : va_S A s.heap s.heap [] := va_S.rf
  have hl := lv_entry ([.ref h]) (n := 3) (Nat.le_of_ble_eq_true rfl)
  rw [lg_entry_eq]
  generalize (lg_sl ([.ref h]) ++ List.replicate (3 - (lg_sl ([.ref h])).length) Slot.unset).toArray = ls at hl ⊢
  have hl : lv_has ls 3 [(0, .ref h)] := hl
  refine lv_iconst (v := nI 0) hx hb dX2_addUp_0 (by decide) ?_
  refine lv_istore_n (lv' := [(1, .int (nI 0)), (0, .ref h)]) hx hb dX2_addUp_1 rfl hl (by decide) rfl (fun ls hl => ?_)
  refine lv_iconst (v := nI 0) hx hb dX2_addUp_2 (by decide) ?_
  refine lv_istore_n (lv' := [(2, .int (nI 0)), (1, .int (nI 0)), (0, .ref h)]) hx hb dX2_addUp_3 rfl hl (by decide) rfl (fun ls hl => ?_)
  refine q_for (fun (i : Nat) (H : Heap) (locs : List Loc) (ls : Array Slot) => va_S A s.heap H locs ∧ lv_has ls 3 [(2, .int (nI i)), (1, .int ((addV f i).2)), (0, .ref h)] ∧ pAt D H h (eO 2 [.ref a]) ∧ pAt D H a (eN (T 1) 201 ((addV f i).1))) (N := 201) 0 (by omega) ?_ ?_ ?_
  · skip
    have e1 : nI 0 = (addV f 0).2 := by rfl
    have e2 : (eN (T 1) 201 f) = (eN (T 1) 201 ((addV f 0).1)) := by rfl
    exact ⟨hS, lv_sub (lv_ex hl 1 rfl (congrArg Value.int e1)) [0, 1, 2] rfl, hh, (by rw [← e2]; exact ha)⟩
  · skip
    intro i H locs ls hi9 hin9 hnext
    obtain ⟨hS, hl, hh, ha⟩ := hin9
    refine lv_iload_n hx hb dX2_addUp_4 rfl (lv_at hl 0 rfl) ?_
    refine lv_sipush (v := nI 201) hx hb dX2_addUp_5 (by decide) ?_
    refine lv_icmp_ge (tgt := 38) hx hb dX2_addUp_8 (by decide) (fun c8 => ?_) (fun c8 => ?_)
    · skip
      have c8 : 201 ≤ i := (nc_le (a := 201) (b := i) (by omega) (by omega)).mp c8
      omega
    · skip
      have c8 : ¬ (201 ≤ i) := fun q9 => c8 ((nc_le (a := 201) (b := i) (by omega) (by omega)).mpr q9)
      refine lv_iload_n hx hb dX2_addUp_11 rfl (lv_at hl 0 rfl) ?_
      refine vp_callSi (va_runSN (As := [.int (nI i)]) (rest := []) ⟨hx, hb, hml, hown, hts⟩ (conX3_isPoint l D T (nI i)) (⟨va_cnB 1 hts gX2_addUp_X3_isPoint_n32 rfl rfl rfl hK.2.2.2.1 (hts (.initialized RX3) (by decide +kernel)) (by decide +kernel) ⟨Nat.le_of_ble_eq_true rfl, Nat.le_of_ble_eq_true rfl⟩, hts (.static yX3_isPoint) (by decide +kernel), trivial⟩) (preS hK trivial) rfl rfl hl.1 rfl (lv_room (Nat.le_of_ble_eq_true rfl)) dX2_addUp_12 ⟨Nat.le_of_ble_eq_true rfl, Nat.le_of_ble_eq_true rfl⟩).run (fun r3 hr3 => ?_)
      subst hr3
      refine lv_if_ne (tgt := 26) hx hb dX2_addUp_15 (by decide) (fun c15 => ?_) (fun c15 => ?_)
      · skip
        refine lv_aload_n hx hb dX2_addUp_26 rfl (lv_at hl 2 rfl) ?_
        refine lv_iload_n hx hb dX2_addUp_27 rfl (lv_at hl 0 rfl) ?_
        refine lv_iload_n hx hb dX2_addUp_28 rfl (lv_at hl 1 rfl) ?_
        refine va_callv (va_runV (As := [.int (nI i), .int ((addV f i).2)]) (rest := []) ⟨hx, hb, hml, hown, hts⟩ (conX2_write l D T h a ((addV f i).1) (nI i) ((addV f i).2)) (cwV 2 hts gX2_addUp_X2_write rfl rfl rfl (by decide +kernel) ⟨Nat.le_of_ble_eq_true rfl, Nat.le_of_ble_eq_true rfl⟩) (preV hK hh rfl ⟨hh, ha, hne⟩) rfl rfl hl.1 rfl (lv_room (Nat.le_of_ble_eq_true rfl)) dX2_addUp_29 ⟨Nat.le_of_ble_eq_true rfl, Nat.le_of_ble_eq_true rfl⟩) hS (fun q _ h9 => (by have h8 : q = a := h9; rw [h8]; exact hA_a)) (fun q h9 => (by have h8 : q = a := h9; rw [h8]; exact hA_a)) (fun u t H1 locs1 ht hvm hw9 hB hz1 hk1 hS => ?_)
        try dsimp only at hB
        rw [ht] at hB
        replace hh := hh.kept (hk1 _ hh.lt (fun h9 => hne h9))
        have ha := hB
        refine lv_iinc (v := nI (i + 1)) (lv' := [(2, .int (nI (i + 1))), (1, .int ((addV f i).2)), (0, .ref h)]) hx hb dX2_addUp_32 hl (k := 0) rfl (inc_1 _) (by decide) rfl (fun ls hl => ?_)
        refine lv_goto (tgt := 4) hx hb dX2_addUp_35 (by decide) ?_
        have e4 : (addV f i).2 = (addV f (i + 1)).2 := by first | (rw [addV_s, if_pos c15]; done) | (rw [addV_s, if_neg c15]; done)
        have e5 : (eN (T 1) 201 (wrV ((addV f i).1) (nI i) ((addV f i).2))) = (eN (T 1) 201 ((addV f (i + 1)).1)) := by first | (rw [addV_s, if_pos c15]; done) | (rw [addV_s, if_neg c15]; done)
        exact hnext _ _ _ ⟨hS, lv_sub (lv_ex hl 1 rfl (congrArg Value.int e4)) [0, 1, 2] rfl, hh, (by rw [← e5]; exact ha)⟩
      · skip
        refine lv_iload_n hx hb dX2_addUp_18 rfl (lv_at hl 1 rfl) ?_
        refine lv_aload_n hx hb dX2_addUp_19 rfl (lv_at hl 2 rfl) ?_
        refine lv_iload_n hx hb dX2_addUp_20 rfl (lv_at hl 0 rfl) ?_
        refine vp_callSi (va_runV (As := [.int (nI i)]) (rest := [.int ((addV f i).2)]) ⟨hx, hb, hml, hown, hts⟩ (conX2_at l D T h a ((addV f i).1) (nI i)) (cwV 1 hts gX2_addUp_X2_at rfl rfl rfl (by decide +kernel) ⟨Nat.le_of_ble_eq_true rfl, Nat.le_of_ble_eq_true rfl⟩) (preV hK hh rfl ⟨hh, ha, hne⟩) rfl rfl hl.1 rfl (lv_room (Nat.le_of_ble_eq_true rfl)) dX2_addUp_21 ⟨Nat.le_of_ble_eq_true rfl, Nat.le_of_ble_eq_true rfl⟩).run (fun r6 hr6 => ?_)
        subst hr6
        refine lv_iadd hx hb dX2_addUp_24 ?_
        refine lv_istore_n (lv' := [(1, .int (((addV f i).2) + (atV ((addV f i).1) (nI i)))), (2, .int (nI i)), (0, .ref h)]) hx hb dX2_addUp_25 rfl hl (by decide) rfl (fun ls hl => ?_)
        refine lv_aload_n hx hb dX2_addUp_26 rfl (lv_at hl 2 rfl) ?_
        refine lv_iload_n hx hb dX2_addUp_27 rfl (lv_at hl 1 rfl) ?_
        refine lv_iload_n hx hb dX2_addUp_28 rfl (lv_at hl 0 rfl) ?_
        refine va_callv (va_runV (As := [.int (nI i), .int (((addV f i).2) + (atV ((addV f i).1) (nI i)))]) (rest := []) ⟨hx, hb, hml, hown, hts⟩ (conX2_write l D T h a ((addV f i).1) (nI i) (((addV f i).2) + (atV ((addV f i).1) (nI i)))) (cwV 2 hts gX2_addUp_X2_write rfl rfl rfl (by decide +kernel) ⟨Nat.le_of_ble_eq_true rfl, Nat.le_of_ble_eq_true rfl⟩) (preV hK hh rfl ⟨hh, ha, hne⟩) rfl rfl hl.1 rfl (lv_room (Nat.le_of_ble_eq_true rfl)) dX2_addUp_29 ⟨Nat.le_of_ble_eq_true rfl, Nat.le_of_ble_eq_true rfl⟩) hS (fun q _ h9 => (by have h8 : q = a := h9; rw [h8]; exact hA_a)) (fun q h9 => (by have h8 : q = a := h9; rw [h8]; exact hA_a)) (fun u t H1 locs1 ht hvm hw9 hB hz1 hk1 hS => ?_)
        try dsimp only at hB
        rw [ht] at hB
        replace hh := hh.kept (hk1 _ hh.lt (fun h9 => hne h9))
        have ha := hB
        refine lv_iinc (v := nI (i + 1)) (lv' := [(2, .int (nI (i + 1))), (1, .int (((addV f i).2) + (atV ((addV f i).1) (nI i)))), (0, .ref h)]) hx hb dX2_addUp_32 hl (k := 1) rfl (inc_1 _) (by decide) rfl (fun ls hl => ?_)
        refine lv_goto (tgt := 4) hx hb dX2_addUp_35 (by decide) ?_
        have e7 : ((addV f i).2) + (atV ((addV f i).1) (nI i)) = (addV f (i + 1)).2 := by first | (rw [addV_s, if_pos c15]; done) | (rw [addV_s, if_neg c15]; done)
        have e8 : (eN (T 1) 201 (wrV ((addV f i).1) (nI i) (((addV f i).2) + (atV ((addV f i).1) (nI i))))) = (eN (T 1) 201 ((addV f (i + 1)).1)) := by first | (rw [addV_s, if_pos c15]; done) | (rw [addV_s, if_neg c15]; done)
        exact hnext _ _ _ ⟨hS, lv_sub (lv_ex hl 1 rfl (congrArg Value.int e7)) [0, 1, 2] rfl, hh, (by rw [← e8]; exact ha)⟩
  · skip
    intro H locs ls hin9
    obtain ⟨hS, hl, hh, ha⟩ := hin9
    refine lv_iload_n hx hb dX2_addUp_4 rfl (lv_at hl 0 rfl) ?_
    refine lv_sipush (v := nI 201) hx hb dX2_addUp_5 (by decide) ?_
    refine lv_icmp_ge (tgt := 38) hx hb dX2_addUp_8 (by decide) (fun c8 => ?_) (fun c8 => ?_)
    · skip
      have c8 : 201 ≤ 201 := (nc_le (a := 201) (b := 201) (by omega) (by omega)).mp c8
      exact W.vret hx hb hr (fun t ht _ => ⟨⟨(), rfl, trivial, by dsimp only; rw [ht]; exact ha⟩, hS.F ht⟩) hS.2.2 dX2_addUp_38
    · skip
      have c8 : ¬ (201 ≤ 201) := fun q9 => c8 ((nc_le (a := 201) (b := 201) (by omega) (by omega)).mpr q9)
      omega

set_option maxHeartbeats 4000000 in
set_option maxRecDepth 100000 in
theorem conX2_mirrorOf (l : Launch) (D : va_G) (T : Nat → ClassId) (h a : Nat) (f : Nat → Int32) (h2 a2 : Nat) (g : Nat → Int32) : Met l yX2_mirrorOf wsX2_mirrorOf ({ frames := 2, cells := 0, slots := 0, locals := 38 }) (cP D T [.ref h, .ref h2] (fun H => SF D T h a f H ∧ SF D T h2 a2 g H ∧ h2 ≠ a ∧ a2 ≠ a)) (va_Qv (fun (_ : Unit) => True) (fun _ t => pAt D t.heap a (eN (T 1) 201 (mirV f g 201))) (fun q : Nat => q = a)) 0 0 (fun q : Nat => q = a) := by
  refine Met.ofW (cc := cX2_mirrorOf) (maxL := 3) (ret := none) (by decide) rfl ?_
  intro p e s m args below meth c s₁ B hml hv9
  obtain ⟨rfl, hK, ⟨hh, ha, hne⟩, ⟨gh, ga, gne⟩, hn2, hn3⟩ := hv9
  have hx := B.exec
  have hb := B.bytes
  have hr := B.returns
  have hts := atoms_spec (ws := wsX2_mirrorOf) B.pre
  have hown : s.vm.findClass RX2 = some m.cls := findClass_of_methodNamed B.named
  have hlocks := B.notSynchronized
  generalize hAe : (fun q : Nat => q = a) = A
  have hA_a : A a := by subst hAe; first | rfl | exact Or.inl rfl | exact Or.inr rfl | (simp; done)
  have hS : va_S A s.heap s.heap [] := va_S.rf
  have hl := lv_entry ([.ref h, .ref h2]) (n := 3) (Nat.le_of_ble_eq_true rfl)
  rw [lg_entry_eq]
  generalize (lg_sl ([.ref h, .ref h2]) ++ List.replicate (3 - (lg_sl ([.ref h, .ref h2])).length) Slot.unset).toArray = ls at hl ⊢
  have hl : lv_has ls 3 [(0, .ref h), (1, .ref h2)] := hl
  refine lv_iconst (v := nI 0) hx hb dX2_mirrorOf_0 (by decide) ?_
  refine lv_istore_n (lv' := [(2, .int (nI 0)), (0, .ref h), (1, .ref h2)]) hx hb dX2_mirrorOf_1 rfl hl (by decide) rfl (fun ls hl => ?_)
  refine q_for (fun (i : Nat) (H : Heap) (locs : List Loc) (ls : Array Slot) => va_S A s.heap H locs ∧ lv_has ls 3 [(2, .int (nI i)), (0, .ref h), (1, .ref h2)] ∧ pAt D H h (eO 2 [.ref a]) ∧ pAt D H a (eN (T 1) 201 (mirV f g i)) ∧ pAt D H h2 (eO 2 [.ref a2]) ∧ pAt D H a2 (eN (T 1) 201 g)) (N := 201) 0 (by omega) ?_ ?_ ?_
  · skip
    have e1 : (eN (T 1) 201 f) = (eN (T 1) 201 (mirV f g 0)) := by rfl
    exact ⟨hS, lv_sub hl [0, 1, 2] rfl, hh, (by rw [← e1]; exact ha), gh, ga⟩
  · skip
    intro i H locs ls hi9 hin9 hnext
    obtain ⟨hS, hl, hh, ha, gh, ga⟩ := hin9
    refine lv_iload_n hx hb dX2_mirrorOf_2 rfl (lv_at hl 0 rfl) ?_
    refine lv_sipush (v := nI 201) hx hb dX2_mirrorOf_3 (by decide) ?_
    refine lv_icmp_ge (tgt := 29) hx hb dX2_mirrorOf_6 (by decide) (fun c6 => ?_) (fun c6 => ?_)
    · skip
      have c6 : 201 ≤ i := (nc_le (a := 201) (b := i) (by omega) (by omega)).mp c6
      omega
    · skip
      have c6 : ¬ (201 ≤ i) := fun q9 => c6 ((nc_le (a := 201) (b := i) (by omega) (by omega)).mpr q9)
      refine lv_aload_n hx hb dX2_mirrorOf_9 rfl (lv_at hl 1 rfl) ?_
      refine lv_iload_n hx hb dX2_mirrorOf_10 rfl (lv_at hl 0 rfl) ?_
      refine lv_aload_n hx hb dX2_mirrorOf_11 rfl (lv_at hl 2 rfl) ?_
      refine lv_sipush (v := nI 200) hx hb dX2_mirrorOf_12 (by decide) ?_
      refine lv_iload_n hx hb dX2_mirrorOf_15 rfl (lv_at hl 0 rfl) ?_
      refine lv_isub hx hb dX2_mirrorOf_16 ?_
      refine vp_callSi (va_runV (As := [.int ((nI 200) - (nI i))]) (rest := [.int (nI i), .ref h]) ⟨hx, hb, hml, hown, hts⟩ (conX2_at l D T h2 a2 g ((nI 200) - (nI i))) (cwV 1 hts gX2_mirrorOf_X2_at rfl rfl rfl (by decide +kernel) ⟨Nat.le_of_ble_eq_true rfl, Nat.le_of_ble_eq_true rfl⟩) (preV hK gh rfl ⟨gh, ga, gne⟩) rfl rfl hl.1 rfl (lv_room (Nat.le_of_ble_eq_true rfl)) dX2_mirrorOf_17 ⟨Nat.le_of_ble_eq_true rfl, Nat.le_of_ble_eq_true rfl⟩).run (fun r2 hr2 => ?_)
      subst hr2
      refine va_callv (va_runV (As := [.int (nI i), .int (atV g ((nI 200) - (nI i)))]) (rest := []) ⟨hx, hb, hml, hown, hts⟩ (conX2_write l D T h a (mirV f g i) (nI i) (atV g ((nI 200) - (nI i)))) (cwV 2 hts gX2_mirrorOf_X2_write rfl rfl rfl (by decide +kernel) ⟨Nat.le_of_ble_eq_true rfl, Nat.le_of_ble_eq_true rfl⟩) (preV hK hh rfl ⟨hh, ha, hne⟩) rfl rfl hl.1 rfl (lv_room (Nat.le_of_ble_eq_true rfl)) dX2_mirrorOf_20 ⟨Nat.le_of_ble_eq_true rfl, Nat.le_of_ble_eq_true rfl⟩) hS (fun q _ h9 => (by have h8 : q = a := h9; rw [h8]; exact hA_a)) (fun q h9 => (by have h8 : q = a := h9; rw [h8]; exact hA_a)) (fun u t H1 locs1 ht hvm hw9 hB hz1 hk1 hS => ?_)
      try dsimp only at hB
      rw [ht] at hB
      replace hh := hh.kept (hk1 _ hh.lt (fun h9 => hne h9))
      replace gh := gh.kept (hk1 _ gh.lt (fun h9 => hn2 h9))
      replace ga := ga.kept (hk1 _ ga.lt (fun h9 => hn3 h9))
      have ha := hB
      refine lv_iinc (v := nI (i + 1)) (lv' := [(2, .int (nI (i + 1))), (0, .ref h), (1, .ref h2)]) hx hb dX2_mirrorOf_23 hl (k := 0) rfl (inc_1 _) (by decide) rfl (fun ls hl => ?_)
      refine lv_goto (tgt := 2) hx hb dX2_mirrorOf_26 (by decide) ?_
      have e3 : (eN (T 1) 201 (wrV (mirV f g i) (nI i) (atV g ((nI 200) - (nI i))))) = (eN (T 1) 201 (mirV f g (i + 1))) := by (rw [mirV_s])
      exact hnext _ _ _ ⟨hS, lv_sub hl [0, 1, 2] rfl, hh, (by rw [← e3]; exact ha), gh, ga⟩
  · skip
    intro H locs ls hin9
    obtain ⟨hS, hl, hh, ha, gh, ga⟩ := hin9
    refine lv_iload_n hx hb dX2_mirrorOf_2 rfl (lv_at hl 0 rfl) ?_
    refine lv_sipush (v := nI 201) hx hb dX2_mirrorOf_3 (by decide) ?_
    refine lv_icmp_ge (tgt := 29) hx hb dX2_mirrorOf_6 (by decide) (fun c6 => ?_) (fun c6 => ?_)
    · skip
      have c6 : 201 ≤ 201 := (nc_le (a := 201) (b := 201) (by omega) (by omega)).mp c6
      exact W.vret hx hb hr (fun t ht _ => ⟨⟨(), rfl, trivial, by dsimp only; rw [ht]; exact ha⟩, hS.F ht⟩) hS.2.2 dX2_mirrorOf_29
    · skip
      have c6 : ¬ (201 ≤ 201) := fun q9 => c6 ((nc_le (a := 201) (b := 201) (by omega) (by omega)).mpr q9)
      omega

set_option maxHeartbeats 4000000 in
set_option maxRecDepth 100000 in
theorem conX2_greatestNear (l : Launch) (D : va_G) (T : Nat → ClassId) (h a : Nat) (f : Nat → Int32) (h2 a2 : Nat) (g : Nat → Int32) (r : Nat) (hr9 : r ≤ 200) : Met l yX2_greatestNear wsX2_greatestNear ({ frames := 2, cells := 0, slots := 0, locals := 45 }) (cP D T [.ref h, .ref h2, .int (nI r)] (fun H => SF D T h a f H ∧ SF D T h2 a2 g H ∧ h2 ≠ a ∧ a2 ≠ a)) (va_Qv (fun (_ : Unit) => True) (fun _ t => pAt D t.heap a (eN (T 1) 201 (grnV f g r 201))) (fun q : Nat => q = a)) 0 0 (fun q : Nat => q = a) := by
  refine Met.ofW (cc := cX2_greatestNear) (maxL := 4) (ret := none) (by decide) rfl ?_
  intro p e s m args below meth c s₁ B hml hv9
  obtain ⟨rfl, hK, ⟨hh, ha, hne⟩, ⟨gh, ga, gne⟩, hn2, hn3⟩ := hv9
  have hx := B.exec
  have hb := B.bytes
  have hr := B.returns
  have hts := atoms_spec (ws := wsX2_greatestNear) B.pre
  have hown : s.vm.findClass RX2 = some m.cls := findClass_of_methodNamed B.named
  have hlocks := B.notSynchronized
  generalize hAe : (fun q : Nat => q = a) = A
  have hA_a : A a := by subst hAe; first | rfl | exact Or.inl rfl | exact Or.inr rfl | (simp; done)
  have hS : va_S A s.heap s.heap [] := va_S.rf
  have hl := lv_entry ([.ref h, .ref h2, .int (nI r)]) (n := 4) (Nat.le_of_ble_eq_true rfl)
  rw [lg_entry_eq]
  generalize (lg_sl ([.ref h, .ref h2, .int (nI r)]) ++ List.replicate (4 - (lg_sl ([.ref h, .ref h2, .int (nI r)])).length) Slot.unset).toArray = ls at hl ⊢
  have hl : lv_has ls 4 [(0, .ref h), (1, .ref h2), (2, .int (nI r))] := hl
  refine lv_iconst (v := nI 0) hx hb dX2_greatestNear_0 (by decide) ?_
  refine lv_istore_n (lv' := [(3, .int (nI 0)), (0, .ref h), (1, .ref h2), (2, .int (nI r))]) hx hb dX2_greatestNear_1 rfl hl (by decide) rfl (fun ls hl => ?_)
  refine q_for (fun (i : Nat) (H : Heap) (locs : List Loc) (ls : Array Slot) => va_S A s.heap H locs ∧ lv_has ls 4 [(3, .int (nI i)), (0, .ref h), (1, .ref h2), (2, .int (nI r))] ∧ pAt D H h (eO 2 [.ref a]) ∧ pAt D H a (eN (T 1) 201 (grnV f g r i)) ∧ pAt D H h2 (eO 2 [.ref a2]) ∧ pAt D H a2 (eN (T 1) 201 g)) (N := 201) 0 (by omega) ?_ ?_ ?_
  · skip
    have e1 : (eN (T 1) 201 f) = (eN (T 1) 201 (grnV f g r 0)) := by rfl
    exact ⟨hS, lv_sub hl [0, 1, 2, 3] rfl, hh, (by rw [← e1]; exact ha), gh, ga⟩
  · skip
    intro i H locs ls hi9 hin9 hnext
    obtain ⟨hS, hl, hh, ha, gh, ga⟩ := hin9
    refine lv_iload_n hx hb dX2_greatestNear_2 rfl (lv_at hl 0 rfl) ?_
    refine lv_sipush (v := nI 201) hx hb dX2_greatestNear_3 (by decide) ?_
    refine lv_icmp_ge (tgt := 30) hx hb dX2_greatestNear_6 (by decide) (fun c6 => ?_) (fun c6 => ?_)
    · skip
      have c6 : 201 ≤ i := (nc_le (a := 201) (b := i) (by omega) (by omega)).mp c6
      omega
    · skip
      have c6 : ¬ (201 ≤ i) := fun q9 => c6 ((nc_le (a := 201) (b := i) (by omega) (by omega)).mpr q9)
      refine lv_aload_n hx hb dX2_greatestNear_9 rfl (lv_at hl 1 rfl) ?_
      refine lv_iload_n hx hb dX2_greatestNear_10 rfl (lv_at hl 0 rfl) ?_
      refine lv_aload_n hx hb dX2_greatestNear_11 rfl (lv_at hl 2 rfl) ?_
      refine lv_iload_n hx hb dX2_greatestNear_12 rfl (lv_at hl 0 rfl) ?_
      refine lv_iload_n hx hb dX2_greatestNear_13 rfl (lv_at hl 3 rfl) ?_
      refine lv_isub hx hb dX2_greatestNear_14 ?_
      refine lv_iload_n hx hb dX2_greatestNear_15 rfl (lv_at hl 0 rfl) ?_
      refine lv_iload_n hx hb dX2_greatestNear_16 rfl (lv_at hl 3 rfl) ?_
      refine lv_iadd hx hb dX2_greatestNear_17 ?_
      rw [nI_add]
      refine vp_callSi (va_runV (As := [.int ((nI i) - (nI r)), .int (nI (i + r))]) (rest := [.int (nI i), .ref h]) ⟨hx, hb, hml, hown, hts⟩ (conX2_greatest l D T h2 a2 g (i - r) (i + r + 1) ((nI i) - (nI r)) (nI (i + r)) (by omega) (by omega) (jmax_sub (by omega) (by omega)) (add_hi (by omega) (by omega))) (cwV 2 hts gX2_greatestNear_X2_greatest rfl rfl rfl (by decide +kernel) ⟨Nat.le_of_ble_eq_true rfl, Nat.le_of_ble_eq_true rfl⟩) (preV hK gh rfl ⟨gh, ga, gne⟩) rfl rfl hl.1 rfl (lv_room (Nat.le_of_ble_eq_true rfl)) dX2_greatestNear_18 ⟨Nat.le_of_ble_eq_true rfl, Nat.le_of_ble_eq_true rfl⟩).run (fun r2 hr2 => ?_)
      subst hr2
      refine va_callv (va_runV (As := [.int (nI i), .int (grtV g (i - r) (min (i + r + 1) 201 - (i - r)))]) (rest := []) ⟨hx, hb, hml, hown, hts⟩ (conX2_write l D T h a (grnV f g r i) (nI i) (grtV g (i - r) (min (i + r + 1) 201 - (i - r)))) (cwV 2 hts gX2_greatestNear_X2_write rfl rfl rfl (by decide +kernel) ⟨Nat.le_of_ble_eq_true rfl, Nat.le_of_ble_eq_true rfl⟩) (preV hK hh rfl ⟨hh, ha, hne⟩) rfl rfl hl.1 rfl (lv_room (Nat.le_of_ble_eq_true rfl)) dX2_greatestNear_21 ⟨Nat.le_of_ble_eq_true rfl, Nat.le_of_ble_eq_true rfl⟩) hS (fun q _ h9 => (by have h8 : q = a := h9; rw [h8]; exact hA_a)) (fun q h9 => (by have h8 : q = a := h9; rw [h8]; exact hA_a)) (fun u t H1 locs1 ht hvm hw9 hB hz1 hk1 hS => ?_)
      try dsimp only at hB
      rw [ht] at hB
      replace hh := hh.kept (hk1 _ hh.lt (fun h9 => hne h9))
      replace gh := gh.kept (hk1 _ gh.lt (fun h9 => hn2 h9))
      replace ga := ga.kept (hk1 _ ga.lt (fun h9 => hn3 h9))
      have ha := hB
      refine lv_iinc (v := nI (i + 1)) (lv' := [(3, .int (nI (i + 1))), (0, .ref h), (1, .ref h2), (2, .int (nI r))]) hx hb dX2_greatestNear_24 hl (k := 0) rfl (inc_1 _) (by decide) rfl (fun ls hl => ?_)
      refine lv_goto (tgt := 2) hx hb dX2_greatestNear_27 (by decide) ?_
      have e3 : (eN (T 1) 201 (wrV (grnV f g r i) (nI i) (grtV g (i - r) (min (i + r + 1) 201 - (i - r))))) = (eN (T 1) 201 (grnV f g r (i + 1))) := by (rw [grnV_s])
      exact hnext _ _ _ ⟨hS, lv_sub hl [0, 1, 2, 3] rfl, hh, (by rw [← e3]; exact ha), gh, ga⟩
  · skip
    intro H locs ls hin9
    obtain ⟨hS, hl, hh, ha, gh, ga⟩ := hin9
    refine lv_iload_n hx hb dX2_greatestNear_2 rfl (lv_at hl 0 rfl) ?_
    refine lv_sipush (v := nI 201) hx hb dX2_greatestNear_3 (by decide) ?_
    refine lv_icmp_ge (tgt := 30) hx hb dX2_greatestNear_6 (by decide) (fun c6 => ?_) (fun c6 => ?_)
    · skip
      have c6 : 201 ≤ 201 := (nc_le (a := 201) (b := 201) (by omega) (by omega)).mp c6
      exact W.vret hx hb hr (fun t ht _ => ⟨⟨(), rfl, trivial, by dsimp only; rw [ht]; exact ha⟩, hS.F ht⟩) hS.2.2 dX2_greatestNear_30
    · skip
      have c6 : ¬ (201 ≤ 201) := fun q9 => c6 ((nc_le (a := 201) (b := 201) (by omega) (by omega)).mpr q9)
      omega

set_option maxHeartbeats 4000000 in
set_option maxRecDepth 100000 in
theorem conX2_leastNear (l : Launch) (D : va_G) (T : Nat → ClassId) (h a : Nat) (f : Nat → Int32) (h2 a2 : Nat) (g : Nat → Int32) (r : Nat) (hr9 : r ≤ 200) : Met l yX2_leastNear wsX2_leastNear ({ frames := 2, cells := 0, slots := 0, locals := 45 }) (cP D T [.ref h, .ref h2, .int (nI r)] (fun H => SF D T h a f H ∧ SF D T h2 a2 g H ∧ h2 ≠ a ∧ a2 ≠ a)) (va_Qv (fun (_ : Unit) => True) (fun _ t => pAt D t.heap a (eN (T 1) 201 (lenV f g r 201))) (fun q : Nat => q = a)) 0 0 (fun q : Nat => q = a) := by
  refine Met.ofW (cc := cX2_leastNear) (maxL := 4) (ret := none) (by decide) rfl ?_
  intro p e s m args below meth c s₁ B hml hv9
  obtain ⟨rfl, hK, ⟨hh, ha, hne⟩, ⟨gh, ga, gne⟩, hn2, hn3⟩ := hv9
  have hx := B.exec
  have hb := B.bytes
  have hr := B.returns
  have hts := atoms_spec (ws := wsX2_leastNear) B.pre
  have hown : s.vm.findClass RX2 = some m.cls := findClass_of_methodNamed B.named
  have hlocks := B.notSynchronized
  generalize hAe : (fun q : Nat => q = a) = A
  have hA_a : A a := by subst hAe; first | rfl | exact Or.inl rfl | exact Or.inr rfl | (simp; done)
  have hS : va_S A s.heap s.heap [] := va_S.rf
  have hl := lv_entry ([.ref h, .ref h2, .int (nI r)]) (n := 4) (Nat.le_of_ble_eq_true rfl)
  rw [lg_entry_eq]
  generalize (lg_sl ([.ref h, .ref h2, .int (nI r)]) ++ List.replicate (4 - (lg_sl ([.ref h, .ref h2, .int (nI r)])).length) Slot.unset).toArray = ls at hl ⊢
  have hl : lv_has ls 4 [(0, .ref h), (1, .ref h2), (2, .int (nI r))] := hl
  refine lv_iconst (v := nI 0) hx hb dX2_leastNear_0 (by decide) ?_
  refine lv_istore_n (lv' := [(3, .int (nI 0)), (0, .ref h), (1, .ref h2), (2, .int (nI r))]) hx hb dX2_leastNear_1 rfl hl (by decide) rfl (fun ls hl => ?_)
  refine q_for (fun (i : Nat) (H : Heap) (locs : List Loc) (ls : Array Slot) => va_S A s.heap H locs ∧ lv_has ls 4 [(3, .int (nI i)), (0, .ref h), (1, .ref h2), (2, .int (nI r))] ∧ pAt D H h (eO 2 [.ref a]) ∧ pAt D H a (eN (T 1) 201 (lenV f g r i)) ∧ pAt D H h2 (eO 2 [.ref a2]) ∧ pAt D H a2 (eN (T 1) 201 g)) (N := 201) 0 (by omega) ?_ ?_ ?_
  · skip
    have e1 : (eN (T 1) 201 f) = (eN (T 1) 201 (lenV f g r 0)) := by rfl
    exact ⟨hS, lv_sub hl [0, 1, 2, 3] rfl, hh, (by rw [← e1]; exact ha), gh, ga⟩
  · skip
    intro i H locs ls hi9 hin9 hnext
    obtain ⟨hS, hl, hh, ha, gh, ga⟩ := hin9
    refine lv_iload_n hx hb dX2_leastNear_2 rfl (lv_at hl 0 rfl) ?_
    refine lv_sipush (v := nI 201) hx hb dX2_leastNear_3 (by decide) ?_
    refine lv_icmp_ge (tgt := 30) hx hb dX2_leastNear_6 (by decide) (fun c6 => ?_) (fun c6 => ?_)
    · skip
      have c6 : 201 ≤ i := (nc_le (a := 201) (b := i) (by omega) (by omega)).mp c6
      omega
    · skip
      have c6 : ¬ (201 ≤ i) := fun q9 => c6 ((nc_le (a := 201) (b := i) (by omega) (by omega)).mpr q9)
      refine lv_aload_n hx hb dX2_leastNear_9 rfl (lv_at hl 1 rfl) ?_
      refine lv_iload_n hx hb dX2_leastNear_10 rfl (lv_at hl 0 rfl) ?_
      refine lv_aload_n hx hb dX2_leastNear_11 rfl (lv_at hl 2 rfl) ?_
      refine lv_iload_n hx hb dX2_leastNear_12 rfl (lv_at hl 0 rfl) ?_
      refine lv_iload_n hx hb dX2_leastNear_13 rfl (lv_at hl 3 rfl) ?_
      refine lv_isub hx hb dX2_leastNear_14 ?_
      refine lv_iload_n hx hb dX2_leastNear_15 rfl (lv_at hl 0 rfl) ?_
      refine lv_iload_n hx hb dX2_leastNear_16 rfl (lv_at hl 3 rfl) ?_
      refine lv_iadd hx hb dX2_leastNear_17 ?_
      rw [nI_add]
      refine vp_callSi (va_runV (As := [.int ((nI i) - (nI r)), .int (nI (i + r))]) (rest := [.int (nI i), .ref h]) ⟨hx, hb, hml, hown, hts⟩ (conX2_least l D T h2 a2 g (i - r) (i + r + 1) ((nI i) - (nI r)) (nI (i + r)) (by omega) (by omega) (jmax_sub (by omega) (by omega)) (add_hi (by omega) (by omega))) (cwV 2 hts gX2_leastNear_X2_least rfl rfl rfl (by decide +kernel) ⟨Nat.le_of_ble_eq_true rfl, Nat.le_of_ble_eq_true rfl⟩) (preV hK gh rfl ⟨gh, ga, gne⟩) rfl rfl hl.1 rfl (lv_room (Nat.le_of_ble_eq_true rfl)) dX2_leastNear_18 ⟨Nat.le_of_ble_eq_true rfl, Nat.le_of_ble_eq_true rfl⟩).run (fun r2 hr2 => ?_)
      subst hr2
      refine va_callv (va_runV (As := [.int (nI i), .int (lstV g (i - r) (min (i + r + 1) 201 - (i - r)))]) (rest := []) ⟨hx, hb, hml, hown, hts⟩ (conX2_write l D T h a (lenV f g r i) (nI i) (lstV g (i - r) (min (i + r + 1) 201 - (i - r)))) (cwV 2 hts gX2_leastNear_X2_write rfl rfl rfl (by decide +kernel) ⟨Nat.le_of_ble_eq_true rfl, Nat.le_of_ble_eq_true rfl⟩) (preV hK hh rfl ⟨hh, ha, hne⟩) rfl rfl hl.1 rfl (lv_room (Nat.le_of_ble_eq_true rfl)) dX2_leastNear_21 ⟨Nat.le_of_ble_eq_true rfl, Nat.le_of_ble_eq_true rfl⟩) hS (fun q _ h9 => (by have h8 : q = a := h9; rw [h8]; exact hA_a)) (fun q h9 => (by have h8 : q = a := h9; rw [h8]; exact hA_a)) (fun u t H1 locs1 ht hvm hw9 hB hz1 hk1 hS => ?_)
      try dsimp only at hB
      rw [ht] at hB
      replace hh := hh.kept (hk1 _ hh.lt (fun h9 => hne h9))
      replace gh := gh.kept (hk1 _ gh.lt (fun h9 => hn2 h9))
      replace ga := ga.kept (hk1 _ ga.lt (fun h9 => hn3 h9))
      have ha := hB
      refine lv_iinc (v := nI (i + 1)) (lv' := [(3, .int (nI (i + 1))), (0, .ref h), (1, .ref h2), (2, .int (nI r))]) hx hb dX2_leastNear_24 hl (k := 0) rfl (inc_1 _) (by decide) rfl (fun ls hl => ?_)
      refine lv_goto (tgt := 2) hx hb dX2_leastNear_27 (by decide) ?_
      have e3 : (eN (T 1) 201 (wrV (lenV f g r i) (nI i) (lstV g (i - r) (min (i + r + 1) 201 - (i - r))))) = (eN (T 1) 201 (lenV f g r (i + 1))) := by (rw [lenV_s])
      exact hnext _ _ _ ⟨hS, lv_sub hl [0, 1, 2, 3] rfl, hh, (by rw [← e3]; exact ha), gh, ga⟩
  · skip
    intro H locs ls hin9
    obtain ⟨hS, hl, hh, ha, gh, ga⟩ := hin9
    refine lv_iload_n hx hb dX2_leastNear_2 rfl (lv_at hl 0 rfl) ?_
    refine lv_sipush (v := nI 201) hx hb dX2_leastNear_3 (by decide) ?_
    refine lv_icmp_ge (tgt := 30) hx hb dX2_leastNear_6 (by decide) (fun c6 => ?_) (fun c6 => ?_)
    · skip
      have c6 : 201 ≤ 201 := (nc_le (a := 201) (b := 201) (by omega) (by omega)).mp c6
      exact W.vret hx hb hr (fun t ht _ => ⟨⟨(), rfl, trivial, by dsimp only; rw [ht]; exact ha⟩, hS.F ht⟩) hS.2.2 dX2_leastNear_30
    · skip
      have c6 : ¬ (201 ≤ 201) := fun q9 => c6 ((nc_le (a := 201) (b := 201) (by omega) (by omega)).mpr q9)
      omega
