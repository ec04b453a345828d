set_option maxHeartbeats 4000000 in
set_option maxRecDepth 100000 in
theorem conX0_lastOfRun (l : Launch) (D : va_G) (T : Nat → ClassId) (h a : Nat) (f : Nat → Int32) (g : Nat) (hg : g < 201) : Met l yX0_lastOfRun wsX0_lastOfRun ({ frames := 1, cells := 0, slots := 0, locals := 21 }) (cP D T [.ref h, .int (nI g)] (fun H => GS D T h a f H)) (vp_Si (fun r => r = nI (lrN f g))) 0 0 (fun _ => False) := by
  refine Met.ofW (cc := cX0_lastOfRun) (maxL := 3) (ret := (some .int)) (by decide) rfl ?_
  intro p e s m args below meth c s₁ B hml hv9
  obtain ⟨rfl, hK, hh, ha, hne⟩ := hv9
  have hx := B.exec
  have hb := B.bytes
  have hr := B.returns
  have hts := atoms_spec (ws := wsX0_lastOfRun) B.pre
  have hown : s.vm.findClass RX0 = some m.cls := findClass_of_methodNamed B.named
  have hlocks := B.notSynchronized
  have hl := lv_entry ([.ref h, .int (nI g)]) (n := 3) (Nat.le_of_ble_eq_true rfl)
  rw [lg_entry_eq]
  generalize (lg_sl ([.ref h, .int (nI g)]) ++ List.replicate (3 - (lg_sl ([.ref h, .int (nI g)])).length) Slot.unset).toArray = ls at hl ⊢
  have hl : lv_has ls 3 [(0, .ref h), (1, .int (nI g))] := hl
  have hlr := lrN_spec f (g := g) (by omega)
  have hgl : g + (lrN f g - g) = lrN f g := by omega
  refine lv_iload_n hx hb dX0_lastOfRun_0 rfl (lv_at hl 1 rfl) ?_
  refine lv_istore_n (lv' := [(2, .int (nI g)), (0, .ref h), (1, .int (nI g))]) hx hb dX0_lastOfRun_1 rfl hl (by decide) rfl (fun ls hl => ?_)
  refine q_for (fun (i : Nat) (H : Heap) (locs : List Loc) (ls : Array Slot) => H = s.heap ∧ locs = [] ∧ lv_has ls 3 [(2, .int (nI (g + i))), (0, .ref h), (1, .int (nI g))]) (N := (lrN f g - g)) 0 (by omega) ?_ ?_ ?_
  · skip
    have e1 : nI g = nI (g + 0) := by rfl
    exact ⟨rfl, rfl, lv_sub (lv_ex hl 0 rfl (congrArg Value.int e1)) [0, 1, 2] rfl⟩
  · skip
    intro i H locs ls hi9 hin9 hnext
    obtain ⟨rfl, rfl, hl⟩ := hin9
    refine lv_iload_n hx hb dX0_lastOfRun_2 rfl (lv_at hl 0 rfl) ?_
    refine lv_sipush (v := nI 200) hx hb dX0_lastOfRun_3 (by decide) ?_
    refine lv_icmp_ge (tgt := 25) hx hb dX0_lastOfRun_6 (by decide) (fun c6 => ?_) (fun c6 => ?_)
    · skip
      have c6 : 200 ≤ g + i := (nc_le (a := 200) (b := g + i) (by omega) (by omega)).mp c6
      omega
    · skip
      have c6 : ¬ (200 ≤ g + i) := fun q9 => c6 ((nc_le (a := 200) (b := g + i) (by omega) (by omega)).mpr q9)
      refine lv_aload_n hx hb dX0_lastOfRun_9 rfl (lv_at hl 1 rfl) ?_
      refine lv_iload_n hx hb dX0_lastOfRun_10 rfl (lv_at hl 0 rfl) ?_
      refine lv_iconst (v := nI 1) hx hb dX0_lastOfRun_11 (by decide) ?_
      refine lv_iadd hx hb dX0_lastOfRun_12 ?_
      rw [nI_add]
      refine vp_callSi (va_runV (As := [.int (nI (g + i + 1))]) (rest := []) ⟨hx, hb, hml, hown, hts⟩ (conX0_holds l D T h a f (nI (g + i + 1))) (cwV 1 hts gX0_lastOfRun_X0_holds rfl rfl rfl (by decide +kernel) ⟨Nat.le_of_ble_eq_true rfl, Nat.le_of_ble_eq_true rfl⟩) (preV hK hh rfl ⟨hh, ha, hne⟩) rfl rfl hl.1 rfl (lv_room (Nat.le_of_ble_eq_true rfl)) dX0_lastOfRun_13 ⟨Nat.le_of_ble_eq_true rfl, Nat.le_of_ble_eq_true rfl⟩).run (fun r2 hr2 => ?_)
      rw [hr2]
      refine lv_if_eq (tgt := 25) hx hb dX0_lastOfRun_16 (by decide) (fun c16 => ?_) (fun c16 => ?_)
      · skip
        exact absurd c16 (hlr.2.2.1 _ (by omega) (by omega))
      · skip
        refine lv_iinc (v := nI (g + i + 1)) (lv' := [(2, .int (nI (g + i + 1))), (0, .ref h), (1, .int (nI g))]) hx hb dX0_lastOfRun_19 hl (k := 0) rfl (inc_1 _) (by decide) rfl (fun ls hl => ?_)
        refine lv_goto (tgt := 2) hx hb dX0_lastOfRun_22 (by decide) ?_
        have e3 : nI (g + i + 1) = nI (g + (i + 1)) := by rfl
        exact hnext _ _ _ ⟨rfl, rfl, lv_sub (lv_ex hl 0 rfl (congrArg Value.int e3)) [0, 1, 2] rfl⟩
  · skip
    intro H locs ls hin9
    obtain ⟨rfl, rfl, hl⟩ := hin9
    refine lv_iload_n hx hb dX0_lastOfRun_2 rfl (lv_at hl 0 rfl) ?_
    refine lv_sipush (v := nI 200) hx hb dX0_lastOfRun_3 (by decide) ?_
    refine lv_icmp_ge (tgt := 25) hx hb dX0_lastOfRun_6 (by decide) (fun c6 => ?_) (fun c6 => ?_)
    · skip
      have c6 : 200 ≤ g + (lrN f g - g) := (nc_le (a := 200) (b := g + (lrN f g - g)) (by omega) (by omega)).mp c6
      refine lv_iload_n hx hb dX0_lastOfRun_25 rfl (lv_at hl 0 rfl) ?_
      exact W.iret (v := nI (g + (lrN f g - g))) hx hb hr (fun t ht _ => ⟨nI (g + (lrN f g - g)), rfl, by (rw [hgl]), ht⟩) (fun q hq => absurd hq List.not_mem_nil) dX0_lastOfRun_26
    · skip
      have c6 : ¬ (200 ≤ g + (lrN f g - g)) := fun q9 => c6 ((nc_le (a := 200) (b := g + (lrN f g - g)) (by omega) (by omega)).mpr q9)
      refine lv_aload_n hx hb dX0_lastOfRun_9 rfl (lv_at hl 1 rfl) ?_
      refine lv_iload_n hx hb dX0_lastOfRun_10 rfl (lv_at hl 0 rfl) ?_
      refine lv_iconst (v := nI 1) hx hb dX0_lastOfRun_11 (by decide) ?_
      refine lv_iadd hx hb dX0_lastOfRun_12 ?_
      rw [nI_add]
      refine vp_callSi (va_runV (As := [.int (nI ((g + (lrN f g - g)) + 1))]) (rest := []) ⟨hx, hb, hml, hown, hts⟩ (conX0_holds l D T h a f (nI ((g + (lrN f g - g)) + 1))) (cwV 1 hts gX0_lastOfRun_X0_holds rfl rfl rfl (by decide +kernel) ⟨Nat.le_of_ble_eq_true rfl, Nat.le_of_ble_eq_true rfl⟩) (preV hK hh rfl ⟨hh, ha, hne⟩) rfl rfl hl.1 rfl (lv_room (Nat.le_of_ble_eq_true rfl)) dX0_lastOfRun_13 ⟨Nat.le_of_ble_eq_true rfl, Nat.le_of_ble_eq_true rfl⟩).run (fun r4 hr4 => ?_)
      rw [hr4]
      refine lv_if_eq (tgt := 25) hx hb dX0_lastOfRun_16 (by decide) (fun c16 => ?_) (fun c16 => ?_)
      · skip
        refine lv_iload_n hx hb dX0_lastOfRun_25 rfl (lv_at hl 0 rfl) ?_
        exact W.iret (v := nI (g + (lrN f g - g))) hx hb hr (fun t ht _ => ⟨nI (g + (lrN f g - g)), rfl, by (rw [hgl]), ht⟩) (fun q hq => absurd hq List.not_mem_nil) dX0_lastOfRun_26
      · skip
        exact absurd (by rw [hgl]; exact hlr.2.2.2 (by omega)) c16

set_option maxHeartbeats 4000000 in
set_option maxRecDepth 100000 in
theorem conX0_firstOfRun (l : Launch) (D : va_G) (T : Nat → ClassId) (h a : Nat) (f : Nat → Int32) (g : Nat) (hg : g < 201) : Met l yX0_firstOfRun wsX0_firstOfRun ({ frames := 1, cells := 0, slots := 0, locals := 21 }) (cP D T [.ref h, .int (nI g)] (fun H => GS D T h a f H)) (vp_Si (fun r => r = nI (runL f g))) 0 0 (fun _ => False) := by
  refine Met.ofW (cc := cX0_firstOfRun) (maxL := 3) (ret := (some .int)) (by decide) rfl ?_
  intro p e s m args below meth c s₁ B hml hv9
  obtain ⟨rfl, hK, hh, ha, hne⟩ := hv9
  have hx := B.exec
  have hb := B.bytes
  have hr := B.returns
  have hts := atoms_spec (ws := wsX0_firstOfRun) B.pre
  have hown : s.vm.findClass RX0 = some m.cls := findClass_of_methodNamed B.named
  have hlocks := B.notSynchronized
  have hl := lv_entry ([.ref h, .int (nI g)]) (n := 3) (Nat.le_of_ble_eq_true rfl)
  rw [lg_entry_eq]
  generalize (lg_sl ([.ref h, .int (nI g)]) ++ List.replicate (3 - (lg_sl ([.ref h, .int (nI g)])).length) Slot.unset).toArray = ls at hl ⊢
  have hl : lv_has ls 3 [(0, .ref h), (1, .int (nI g))] := hl
  have hrl := runL_spec f g
  have hgl : g - (g - runL f g) = runL f g := by omega
  refine lv_iload_n hx hb dX0_firstOfRun_0 rfl (lv_at hl 1 rfl) ?_
  refine lv_istore_n (lv' := [(2, .int (nI g)), (0, .ref h), (1, .int (nI g))]) hx hb dX0_firstOfRun_1 rfl hl (by decide) rfl (fun ls hl => ?_)
  refine q_for (fun (i : Nat) (H : Heap) (locs : List Loc) (ls : Array Slot) => H = s.heap ∧ locs = [] ∧ lv_has ls 3 [(2, .int (nI (g - i))), (0, .ref h), (1, .int (nI g))]) (N := (g - runL f g)) 0 (by omega) ?_ ?_ ?_
  · skip
    have e1 : nI g = nI (g - 0) := by rfl
    exact ⟨rfl, rfl, lv_sub (lv_ex hl 0 rfl (congrArg Value.int e1)) [0, 1, 2] rfl⟩
  · skip
    intro i H locs ls hi9 hin9 hnext
    obtain ⟨rfl, rfl, hl⟩ := hin9
    refine lv_iload_n hx hb dX0_firstOfRun_2 rfl (lv_at hl 0 rfl) ?_
    refine lv_if_le (tgt := 22) hx hb dX0_firstOfRun_3 (by decide) (fun c3 => ?_) (fun c3 => ?_)
    · skip
      have c3 : g - i ≤ 0 := (nc_le (a := g - i) (b := 0) (by omega) (by omega)).mp c3
      omega
    · skip
      have c3 : ¬ (g - i ≤ 0) := fun q9 => c3 ((nc_le (a := g - i) (b := 0) (by omega) (by omega)).mpr q9)
      refine lv_aload_n hx hb dX0_firstOfRun_6 rfl (lv_at hl 1 rfl) ?_
      refine lv_iload_n hx hb dX0_firstOfRun_7 rfl (lv_at hl 0 rfl) ?_
      refine lv_iconst (v := nI 1) hx hb dX0_firstOfRun_8 (by decide) ?_
      refine lv_isub hx hb dX0_firstOfRun_9 ?_
      refine vp_callSi (va_runV (As := [.int ((nI (g - i)) - (nI 1))]) (rest := []) ⟨hx, hb, hml, hown, hts⟩ (conX0_holds l D T h a f ((nI (g - i)) - (nI 1))) (cwV 1 hts gX0_firstOfRun_X0_holds rfl rfl rfl (by decide +kernel) ⟨Nat.le_of_ble_eq_true rfl, Nat.le_of_ble_eq_true rfl⟩) (preV hK hh rfl ⟨hh, ha, hne⟩) rfl rfl hl.1 rfl (lv_room (Nat.le_of_ble_eq_true rfl)) dX0_firstOfRun_10 ⟨Nat.le_of_ble_eq_true rfl, Nat.le_of_ble_eq_true rfl⟩).run (fun r2 hr2 => ?_)
      rw [hr2]
      refine lv_if_eq (tgt := 22) hx hb dX0_firstOfRun_13 (by decide) (fun c13 => ?_) (fun c13 => ?_)
      · skip
        exact absurd c13 (by rw [pk_sub (by omega)]; exact hrl.2.1 _ (by omega) (by omega))
      · skip
        refine lv_iinc (v := (nI (g - i)) + (-1)) (lv' := [(2, .int ((nI (g - i)) + (-1))), (0, .ref h), (1, .int (nI g))]) hx hb dX0_firstOfRun_16 hl (k := 0) rfl (rfl) (by decide) rfl (fun ls hl => ?_)
        refine lv_goto (tgt := 2) hx hb dX0_firstOfRun_19 (by decide) ?_
        have e3 : (nI (g - i)) + (-1) = nI (g - (i + 1)) := by (exact dec_n (by omega))
        exact hnext _ _ _ ⟨rfl, rfl, lv_sub (lv_ex hl 0 rfl (congrArg Value.int e3)) [0, 1, 2] rfl⟩
  · skip
    intro H locs ls hin9
    obtain ⟨rfl, rfl, hl⟩ := hin9
    refine lv_iload_n hx hb dX0_firstOfRun_2 rfl (lv_at hl 0 rfl) ?_
    refine lv_if_le (tgt := 22) hx hb dX0_firstOfRun_3 (by decide) (fun c3 => ?_) (fun c3 => ?_)
    · skip
      have c3 : g - (g - runL f g) ≤ 0 := (nc_le (a := g - (g - runL f g)) (b := 0) (by omega) (by omega)).mp c3
      refine lv_iload_n hx hb dX0_firstOfRun_22 rfl (lv_at hl 0 rfl) ?_
      exact W.iret (v := nI (g - (g - runL f g))) hx hb hr (fun t ht _ => ⟨nI (g - (g - runL f g)), rfl, by (rw [hgl]), ht⟩) (fun q hq => absurd hq List.not_mem_nil) dX0_firstOfRun_23
    · skip
      have c3 : ¬ (g - (g - runL f g) ≤ 0) := fun q9 => c3 ((nc_le (a := g - (g - runL f g)) (b := 0) (by omega) (by omega)).mpr q9)
      refine lv_aload_n hx hb dX0_firstOfRun_6 rfl (lv_at hl 1 rfl) ?_
      refine lv_iload_n hx hb dX0_firstOfRun_7 rfl (lv_at hl 0 rfl) ?_
      refine lv_iconst (v := nI 1) hx hb dX0_firstOfRun_8 (by decide) ?_
      refine lv_isub hx hb dX0_firstOfRun_9 ?_
      refine vp_callSi (va_runV (As := [.int ((nI (g - (g - runL f g))) - (nI 1))]) (rest := []) ⟨hx, hb, hml, hown, hts⟩ (conX0_holds l D T h a f ((nI (g - (g - runL f g))) - (nI 1))) (cwV 1 hts gX0_firstOfRun_X0_holds rfl rfl rfl (by decide +kernel) ⟨Nat.le_of_ble_eq_true rfl, Nat.le_of_ble_eq_true rfl⟩) (preV hK hh rfl ⟨hh, ha, hne⟩) rfl rfl hl.1 rfl (lv_room (Nat.le_of_ble_eq_true rfl)) dX0_firstOfRun_10 ⟨Nat.le_of_ble_eq_true rfl, Nat.le_of_ble_eq_true rfl⟩).run (fun r4 hr4 => ?_)
      rw [hr4]
      refine lv_if_eq (tgt := 22) hx hb dX0_firstOfRun_13 (by decide) (fun c13 => ?_) (fun c13 => ?_)
      · skip
        refine lv_iload_n hx hb dX0_firstOfRun_22 rfl (lv_at hl 0 rfl) ?_
        exact W.iret (v := nI (g - (g - runL f g))) hx hb hr (fun t ht _ => ⟨nI (g - (g - runL f g)), rfl, by (rw [hgl]), ht⟩) (fun q hq => absurd hq List.not_mem_nil) dX0_firstOfRun_23
      · skip
        exact absurd (by rw [hgl, pk_sub (by omega)]; exact hrl.2.2 (by omega)) c13
