set_option maxHeartbeats 4000000 in
set_option maxRecDepth 100000 in
theorem conX0_isInside (l : Launch) (D : va_G) (T : Nat → ClassId) (h a : Nat) (f : Nat → Int32) (h2 a2 : Nat) (g : Nat → Int32) : Met l yX0_isInside wsX0_isInside ({ frames := 1, cells := 0, slots := 0, locals := 21 }) (cP D T [.ref h, .ref h2] (fun H => GS D T h a f H ∧ GS D T h2 a2 g H)) (vp_Si (fun r => (r = nI 1 ∧ ∀ j : Nat, j < 201 → ¬ holdZ f (nI j) = 0 → ¬ holdZ g (nI j) = 0) ∨ (r = nI 0 ∧ ∃ j : Nat, j < 201 ∧ ¬ holdZ f (nI j) = 0 ∧ holdZ g (nI j) = 0))) 0 0 (fun _ => False) := by
  refine Met.ofW (cc := cX0_isInside) (maxL := 3) (ret := (some .boolean)) (by decide) rfl ?_
  intro p e s m args below meth c s₁ B hml hv9
  obtain ⟨rfl, hK, ⟨hh, ha, hne⟩, ⟨gh, ga, gne⟩⟩ := hv9
  have hx := B.exec
  have hb := B.bytes
  have hr := B.returns
  have hts := atoms_spec (ws := wsX0_isInside) B.pre
  have hown : s.vm.findClass RX0 = some m.cls := findClass_of_methodNamed B.named
  have hlocks := B.notSynchronized
  have hl := lv_entry ([.ref h, .ref h2]) (n := 3) (Nat.le_of_ble_eq_true rfl)
  rw [lg_entry_eq]
  generalize (lg_sl ([.ref h, .ref h2]) ++ List.replicate (3 - (lg_sl ([.ref h, .ref h2])).length) Slot.unset).toArray = ls at hl ⊢
  have hl : lv_has ls 3 [(0, .ref h), (1, .ref h2)] := hl
  refine lv_iconst (v := nI 0) hx hb dX0_isInside_0 (by decide) ?_
  refine lv_istore_n (lv' := [(2, .int (nI 0)), (0, .ref h), (1, .ref h2)]) hx hb dX0_isInside_1 rfl hl (by decide) rfl (fun ls hl => ?_)
  refine q_for (fun (i : Nat) (H : Heap) (locs : List Loc) (ls : Array Slot) => H = s.heap ∧ locs = [] ∧ lv_has ls 3 [(2, .int (nI i)), (0, .ref h), (1, .ref h2)] ∧ ∀ j : Nat, j < i → ¬ holdZ f (nI j) = 0 → ¬ holdZ g (nI j) = 0) (N := 201) 0 (by omega) ?_ ?_ ?_
  · skip
    exact ⟨rfl, rfl, lv_sub hl [0, 1, 2] rfl, (by intro j hj; omega)⟩
  · skip
    intro i H locs ls hi9 hin9 hnext
    obtain ⟨rfl, rfl, hl, hin⟩ := hin9
    refine lv_iload_n hx hb dX0_isInside_2 rfl (lv_at hl 0 rfl) ?_
    refine lv_sipush (v := nI 201) hx hb dX0_isInside_3 (by decide) ?_
    refine lv_icmp_ge (tgt := 33) hx hb dX0_isInside_6 (by decide) (fun c6 => ?_) (fun c6 => ?_)
    · skip
      have c6 : 201 ≤ i := (nc_le (a := 201) (b := i) (by omega) (by omega)).mp c6
      omega
    · skip
      have c6 : ¬ (201 ≤ i) := fun q9 => c6 ((nc_le (a := 201) (b := i) (by omega) (by omega)).mpr q9)
      refine lv_aload_n hx hb dX0_isInside_9 rfl (lv_at hl 1 rfl) ?_
      refine lv_iload_n hx hb dX0_isInside_10 rfl (lv_at hl 0 rfl) ?_
      refine vp_callSi (va_runV (As := [.int (nI i)]) (rest := []) ⟨hx, hb, hml, hown, hts⟩ (conX0_holds l D T h a f (nI i)) (cwV 1 hts gX0_isInside_X0_holds rfl rfl rfl (by decide +kernel) ⟨Nat.le_of_ble_eq_true rfl, Nat.le_of_ble_eq_true rfl⟩) (preV hK hh rfl ⟨hh, ha, hne⟩) rfl rfl hl.1 rfl (lv_room (Nat.le_of_ble_eq_true rfl)) dX0_isInside_11 ⟨Nat.le_of_ble_eq_true rfl, Nat.le_of_ble_eq_true rfl⟩).run (fun r1 hr1 => ?_)
      subst hr1
      refine lv_if_eq (tgt := 27) hx hb dX0_isInside_14 (by decide) (fun c14 => ?_) (fun c14 => ?_)
      · skip
        refine lv_iinc (v := nI (i + 1)) (lv' := [(2, .int (nI (i + 1))), (0, .ref h), (1, .ref h2)]) hx hb dX0_isInside_27 hl (k := 0) rfl (inc_1 _) (by decide) rfl (fun ls hl => ?_)
        refine lv_goto (tgt := 2) hx hb dX0_isInside_30 (by decide) ?_
        exact hnext _ _ _ ⟨rfl, rfl, lv_sub hl [0, 1, 2] rfl, (by intro j hj; rcases Nat.lt_succ_iff_lt_or_eq.mp hj with q | rfl; exact hin j q; first | exact fun h8 => absurd c14 h8 | exact fun _ => c22)⟩
      · skip
        refine lv_aload_n hx hb dX0_isInside_17 rfl (lv_at hl 2 rfl) ?_
        refine lv_iload_n hx hb dX0_isInside_18 rfl (lv_at hl 0 rfl) ?_
        refine vp_callSi (va_runV (As := [.int (nI i)]) (rest := []) ⟨hx, hb, hml, hown, hts⟩ (conX0_holds l D T h2 a2 g (nI i)) (cwV 1 hts gX0_isInside_X0_holds rfl rfl rfl (by decide +kernel) ⟨Nat.le_of_ble_eq_true rfl, Nat.le_of_ble_eq_true rfl⟩) (preV hK gh rfl ⟨gh, ga, gne⟩) rfl rfl hl.1 rfl (lv_room (Nat.le_of_ble_eq_true rfl)) dX0_isInside_19 ⟨Nat.le_of_ble_eq_true rfl, Nat.le_of_ble_eq_true rfl⟩).run (fun r2 hr2 => ?_)
        subst hr2
        refine lv_if_ne (tgt := 27) hx hb dX0_isInside_22 (by decide) (fun c22 => ?_) (fun c22 => ?_)
        · skip
          refine lv_iinc (v := nI (i + 1)) (lv' := [(2, .int (nI (i + 1))), (0, .ref h), (1, .ref h2)]) hx hb dX0_isInside_27 hl (k := 0) rfl (inc_1 _) (by decide) rfl (fun ls hl => ?_)
          refine lv_goto (tgt := 2) hx hb dX0_isInside_30 (by decide) ?_
          exact hnext _ _ _ ⟨rfl, rfl, lv_sub hl [0, 1, 2] rfl, (by intro j hj; rcases Nat.lt_succ_iff_lt_or_eq.mp hj with q | rfl; exact hin j q; first | exact fun h8 => absurd c14 h8 | exact fun _ => c22)⟩
        · skip
          refine lv_iconst (v := nI 0) hx hb dX0_isInside_25 (by decide) ?_
          exact W.zret (v := nI 0) hx hb hr (rfl) (fun t ht _ => ⟨nI 0, rfl, by exact Or.inr ⟨rfl, i, by omega, c14, c22⟩, ht⟩) (fun q hq => absurd hq List.not_mem_nil) dX0_isInside_26
  · skip
    intro H locs ls hin9
    obtain ⟨rfl, rfl, hl, hin⟩ := hin9
    refine lv_iload_n hx hb dX0_isInside_2 rfl (lv_at hl 0 rfl) ?_
    refine lv_sipush (v := nI 201) hx hb dX0_isInside_3 (by decide) ?_
    refine lv_icmp_ge (tgt := 33) hx hb dX0_isInside_6 (by decide) (fun c6 => ?_) (fun c6 => ?_)
    · skip
      have c6 : 201 ≤ 201 := (nc_le (a := 201) (b := 201) (by omega) (by omega)).mp c6
      refine lv_iconst (v := nI 1) hx hb dX0_isInside_33 (by decide) ?_
      exact W.zret (v := nI 1) hx hb hr (rfl) (fun t ht _ => ⟨nI 1, rfl, by exact Or.inl ⟨rfl, hin⟩, ht⟩) (fun q hq => absurd hq List.not_mem_nil) dX0_isInside_34
    · skip
      have c6 : ¬ (201 ≤ 201) := fun q9 => c6 ((nc_le (a := 201) (b := 201) (by omega) (by omega)).mpr q9)
      omega

set_option maxHeartbeats 4000000 in
set_option maxRecDepth 100000 in
theorem conX0_dropEdgePoints (l : Launch) (D : va_G) (T : Nat → ClassId) (h a : Nat) (f : Nat → Int32) : Met l yX0_dropEdgePoints wsX0_dropEdgePoints ({ frames := 1, cells := 0, slots := 0, locals := 22 }) (cP D T [.ref h] (fun H => GS D T h a f H)) (va_Qv (fun (_ : Unit) => True) (fun _ t => pAt D t.heap a (eN (T 0) 201 (dropZ f 101))) (fun q : Nat => q = a)) 0 0 (fun q : Nat => q = a) := by
  refine Met.ofW (cc := cX0_dropEdgePoints) (maxL := 4) (ret := none) (by decide) rfl ?_
  intro p e s m args below meth c s₁ B hml hv9
  obtain ⟨rfl, hK, hh, ha, hne⟩ := hv9
  have hx := B.exec
  have hb := B.bytes
  have hr := B.returns
  have hts := atoms_spec (ws := wsX0_dropEdgePoints) B.pre
  have hown : s.vm.findClass RX0 = some m.cls := findClass_of_methodNamed B.named
  have hlocks := B.notSynchronized
  generalize hAe : (fun q : Nat => q = a) = A
  have hA_a : A a := by subst hAe; first | rfl | exact Or.inl rfl | exact Or.inr rfl | (simp; done)
  have hS : va_S A s.heap s.heap [] := va_S.rf
  have hl := lv_entry ([.ref h]) (n := 4) (Nat.le_of_ble_eq_true rfl)
  rw [lg_entry_eq]
  generalize (lg_sl ([.ref h]) ++ List.replicate (4 - (lg_sl ([.ref h])).length) Slot.unset).toArray = ls at hl ⊢
  have hl : lv_has ls 4 [(0, .ref h)] := hl
  refine lv_iconst (v := nI 0) hx hb dX0_dropEdgePoints_0 (by decide) ?_
  refine lv_istore_n (lv' := [(1, .int (nI 0)), (0, .ref h)]) hx hb dX0_dropEdgePoints_1 rfl hl (by decide) rfl (fun ls hl => ?_)
  refine q_for (fun (i : Nat) (H : Heap) (locs : List Loc) (ls : Array Slot) => va_S A s.heap H locs ∧ lv_has ls 4 [(1, .int (nI (2 * i))), (0, .ref h)] ∧ pAt D H h (eO 0 [.ref a]) ∧ pAt D H a (eN (T 0) 201 (dropZ f i))) (N := 101) 0 (by omega) ?_ ?_ ?_
  · skip
    have e1 : (eN (T 0) 201 f) = (eN (T 0) 201 (dropZ f 0)) := by rfl
    exact ⟨hS, lv_sub hl [0, 1] rfl, hh, (by rw [← e1]; exact ha)⟩
  · skip
    intro i H locs ls hi9 hin9 hnext
    obtain ⟨hS, hl, hh, ha⟩ := hin9
    refine lv_iload_n hx hb dX0_dropEdgePoints_2 rfl (lv_at hl 0 rfl) ?_
    refine lv_sipush (v := nI 201) hx hb dX0_dropEdgePoints_3 (by decide) ?_
    refine lv_icmp_ge (tgt := 72) hx hb dX0_dropEdgePoints_6 (by decide) (fun c6 => ?_) (fun c6 => ?_)
    · skip
      have c6 : 201 ≤ 2 * i := (nc_le (a := 201) (b := 2 * i) (by omega) (by omega)).mp c6
      omega
    · skip
      have c6 : ¬ (201 ≤ 2 * i) := fun q9 => c6 ((nc_le (a := 201) (b := 2 * i) (by omega) (by omega)).mpr q9)
      refine lv_iload_n hx hb dX0_dropEdgePoints_9 rfl (lv_at hl 0 rfl) ?_
      refine lv_if_eq (tgt := 23) hx hb dX0_dropEdgePoints_10 (by decide) (fun c10 => ?_) (fun c10 => ?_)
      · skip
        have c10 : 2 * i = 0 := (nc_eq (a := 2 * i) (b := 0) (by omega) (by omega)).mp c10
        refine lv_iconst (v := nI 1) hx hb dX0_dropEdgePoints_23 (by decide) ?_
        refine lv_goto (tgt := 28) hx hb dX0_dropEdgePoints_24 (by decide) ?_
        refine lv_istore_n (lv' := [(2, .int (nI 1)), (1, .int (nI (2 * i))), (0, .ref h)]) hx hb dX0_dropEdgePoints_28 rfl hl (by decide) rfl (fun ls hl => ?_)
        refine lv_iload_n hx hb dX0_dropEdgePoints_29 rfl (lv_at hl 1 rfl) ?_
        refine lv_sipush (v := nI 200) hx hb dX0_dropEdgePoints_30 (by decide) ?_
        refine lv_icmp_eq (tgt := 46) hx hb dX0_dropEdgePoints_33 (by decide) (fun c33 => ?_) (fun c33 => ?_)
        · skip
          have c33 : 2 * i = 200 := (nc_eq (a := 2 * i) (b := 200) (by omega) (by omega)).mp c33
          refine lv_iconst (v := nI 1) hx hb dX0_dropEdgePoints_46 (by decide) ?_
          refine lv_goto (tgt := 51) hx hb dX0_dropEdgePoints_47 (by decide) ?_
          refine lv_istore_n (lv' := [(3, .int (nI 1)), (2, .int (nI 1)), (1, .int (nI (2 * i))), (0, .ref h)]) hx hb dX0_dropEdgePoints_51 rfl hl (by decide) rfl (fun ls hl => ?_)
          refine lv_iload_n hx hb dX0_dropEdgePoints_52 rfl (lv_at hl 1 rfl) ?_
          refine lv_if_eq (tgt := 60) hx hb dX0_dropEdgePoints_53 (by decide) (fun c53 => ?_) (fun c53 => ?_)
          · skip
            have c53 : 1 = 0 := (nc_eq (a := 1) (b := 0) (by omega) (by omega)).mp c53
            refine lv_aload_n hx hb dX0_dropEdgePoints_60 rfl (lv_at hl 3 rfl) ?_
            refine lv_iload_n hx hb dX0_dropEdgePoints_61 rfl (lv_at hl 2 rfl) ?_
            refine lv_iconst (v := nI 0) hx hb dX0_dropEdgePoints_62 (by decide) ?_
            refine va_callv (va_runV (As := [.int (nI (2 * i)), .int (nI 0)]) (rest := []) ⟨hx, hb, hml, hown, hts⟩ (conX0_write l D T h a (dropZ f i) (nI (2 * i)) (nI 0) (rfl)) (cwV 2 hts gX0_dropEdgePoints_X0_write rfl rfl rfl (by decide +kernel) ⟨Nat.le_of_ble_eq_true rfl, Nat.le_of_ble_eq_true rfl⟩) (preV hK hh rfl ⟨hh, ha, hne⟩) rfl rfl hl.1 rfl (lv_room (Nat.le_of_ble_eq_true rfl)) dX0_dropEdgePoints_63 ⟨Nat.le_of_ble_eq_true rfl, Nat.le_of_ble_eq_true rfl⟩) hS (fun q _ h9 => (by have h8 : q = a := h9; rw [h8]; exact hA_a)) (fun q h9 => (by have h8 : q = a := h9; rw [h8]; exact hA_a)) (fun u t H1 locs1 ht hvm hw9 hB hz1 hk1 hS => ?_)
            try dsimp only at hB
            rw [ht] at hB
            replace hh := hh.kept (hk1 _ hh.lt (fun h9 => hne h9))
            have ha := hB
            refine lv_iinc (v := nI ((2 * i) + 2)) (lv' := [(1, .int (nI ((2 * i) + 2))), (3, .int (nI 1)), (2, .int (nI 1)), (0, .ref h)]) hx hb dX0_dropEdgePoints_66 hl (k := 2) rfl (inc_2 _) (by decide) rfl (fun ls hl => ?_)
            refine lv_goto (tgt := 2) hx hb dX0_dropEdgePoints_69 (by decide) ?_
            have e2 : nI ((2 * i) + 2) = nI (2 * (i + 1)) := by (first | rfl | (congr 1; omega))
            have e3 : (eN (T 0) 201 (wrZ (dropZ f i) (nI (2 * i)) (nI 0))) = (eN (T 0) 201 (dropZ f (i + 1))) := by first | (rw [dropZ_s, if_pos (by simp_all)]; done) | (rw [dropZ_s, if_neg (by simp_all)]; done)
            exact hnext _ _ _ ⟨hS, lv_sub (lv_ex hl 0 rfl (congrArg Value.int e2)) [0, 3] rfl, hh, (by rw [← e3]; exact ha)⟩
          · skip
            have c53 : ¬ (1 = 0) := fun q9 => c53 ((nc_eq (a := 1) (b := 0) (by omega) (by omega)).mpr q9)
            refine lv_iload_n hx hb dX0_dropEdgePoints_56 rfl (lv_at hl 0 rfl) ?_
            refine lv_if_ne (tgt := 66) hx hb dX0_dropEdgePoints_57 (by decide) (fun c57 => ?_) (fun c57 => ?_)
            · skip
              have c57 : ¬ (1 = 0) := fun q9 => c57 ((nc_eq (a := 1) (b := 0) (by omega) (by omega)).mpr q9)
              refine lv_iinc (v := nI ((2 * i) + 2)) (lv' := [(1, .int (nI ((2 * i) + 2))), (3, .int (nI 1)), (2, .int (nI 1)), (0, .ref h)]) hx hb dX0_dropEdgePoints_66 hl (k := 2) rfl (inc_2 _) (by decide) rfl (fun ls hl => ?_)
              refine lv_goto (tgt := 2) hx hb dX0_dropEdgePoints_69 (by decide) ?_
              have e4 : nI ((2 * i) + 2) = nI (2 * (i + 1)) := by (first | rfl | (congr 1; omega))
              have e5 : (eN (T 0) 201 (dropZ f i)) = (eN (T 0) 201 (dropZ f (i + 1))) := by first | (rw [dropZ_s, if_pos (by simp_all)]; done) | (rw [dropZ_s, if_neg (by simp_all)]; done)
              exact hnext _ _ _ ⟨hS, lv_sub (lv_ex hl 0 rfl (congrArg Value.int e4)) [0, 3] rfl, hh, (by rw [← e5]; exact ha)⟩
            · skip
              have c57 : 1 = 0 := (nc_eq (a := 1) (b := 0) (by omega) (by omega)).mp c57
              refine lv_aload_n hx hb dX0_dropEdgePoints_60 rfl (lv_at hl 3 rfl) ?_
              refine lv_iload_n hx hb dX0_dropEdgePoints_61 rfl (lv_at hl 2 rfl) ?_
              refine lv_iconst (v := nI 0) hx hb dX0_dropEdgePoints_62 (by decide) ?_
              refine va_callv (va_runV (As := [.int (nI (2 * i)), .int (nI 0)]) (rest := []) ⟨hx, hb, hml, hown, hts⟩ (conX0_write l D T h a (dropZ f i) (nI (2 * i)) (nI 0) (rfl)) (cwV 2 hts gX0_dropEdgePoints_X0_write rfl rfl rfl (by decide +kernel) ⟨Nat.le_of_ble_eq_true rfl, Nat.le_of_ble_eq_true rfl⟩) (preV hK hh rfl ⟨hh, ha, hne⟩) rfl rfl hl.1 rfl (lv_room (Nat.le_of_ble_eq_true rfl)) dX0_dropEdgePoints_63 ⟨Nat.le_of_ble_eq_true rfl, Nat.le_of_ble_eq_true rfl⟩) hS (fun q _ h9 => (by have h8 : q = a := h9; rw [h8]; exact hA_a)) (fun q h9 => (by have h8 : q = a := h9; rw [h8]; exact hA_a)) (fun u t H1 locs1 ht hvm hw9 hB hz1 hk1 hS => ?_)
              try dsimp only at hB
              rw [ht] at hB
              replace hh := hh.kept (hk1 _ hh.lt (fun h9 => hne h9))
              have ha := hB
              refine lv_iinc (v := nI ((2 * i) + 2)) (lv' := [(1, .int (nI ((2 * i) + 2))), (3, .int (nI 1)), (2, .int (nI 1)), (0, .ref h)]) hx hb dX0_dropEdgePoints_66 hl (k := 2) rfl (inc_2 _) (by decide) rfl (fun ls hl => ?_)
              refine lv_goto (tgt := 2) hx hb dX0_dropEdgePoints_69 (by decide) ?_
              have e6 : nI ((2 * i) + 2) = nI (2 * (i + 1)) := by (first | rfl | (congr 1; omega))
              have e7 : (eN (T 0) 201 (wrZ (dropZ f i) (nI (2 * i)) (nI 0))) = (eN (T 0) 201 (dropZ f (i + 1))) := by first | (rw [dropZ_s, if_pos (by simp_all)]; done) | (rw [dropZ_s, if_neg (by simp_all)]; done)
              exact hnext _ _ _ ⟨hS, lv_sub (lv_ex hl 0 rfl (congrArg Value.int e6)) [0, 3] rfl, hh, (by rw [← e7]; exact ha)⟩
        · skip
          have c33 : ¬ (2 * i = 200) := fun q9 => c33 ((nc_eq (a := 2 * i) (b := 200) (by omega) (by omega)).mpr q9)
          refine lv_aload_n hx hb dX0_dropEdgePoints_36 rfl (lv_at hl 2 rfl) ?_
          refine lv_iload_n hx hb dX0_dropEdgePoints_37 rfl (lv_at hl 1 rfl) ?_
          refine lv_iconst (v := nI 1) hx hb dX0_dropEdgePoints_38 (by decide) ?_
          refine lv_iadd hx hb dX0_dropEdgePoints_39 ?_
          rw [nI_add]
          refine vp_callSi (va_runV (As := [.int (nI ((2 * i) + 1))]) (rest := []) ⟨hx, hb, hml, hown, hts⟩ (conX0_holds l D T h a (dropZ f i) (nI ((2 * i) + 1))) (cwV 1 hts gX0_dropEdgePoints_X0_holds rfl rfl rfl (by decide +kernel) ⟨Nat.le_of_ble_eq_true rfl, Nat.le_of_ble_eq_true rfl⟩) (preV hK hh rfl ⟨hh, ha, hne⟩) rfl rfl hl.1 rfl (lv_room (Nat.le_of_ble_eq_true rfl)) dX0_dropEdgePoints_40 ⟨Nat.le_of_ble_eq_true rfl, Nat.le_of_ble_eq_true rfl⟩).run (fun r8 hr8 => ?_)
          subst hr8
          refine lv_if_eq (tgt := 50) hx hb dX0_dropEdgePoints_43 (by decide) (fun c43 => ?_) (fun c43 => ?_)
          · skip
            refine lv_iconst (v := nI 0) hx hb dX0_dropEdgePoints_50 (by decide) ?_
            refine lv_istore_n (lv' := [(3, .int (nI 0)), (2, .int (nI 1)), (1, .int (nI (2 * i))), (0, .ref h)]) hx hb dX0_dropEdgePoints_51 rfl hl (by decide) rfl (fun ls hl => ?_)
            refine lv_iload_n hx hb dX0_dropEdgePoints_52 rfl (lv_at hl 1 rfl) ?_
            refine lv_if_eq (tgt := 60) hx hb dX0_dropEdgePoints_53 (by decide) (fun c53 => ?_) (fun c53 => ?_)
            · skip
              have c53 : 1 = 0 := (nc_eq (a := 1) (b := 0) (by omega) (by omega)).mp c53
              refine lv_aload_n hx hb dX0_dropEdgePoints_60 rfl (lv_at hl 3 rfl) ?_
              refine lv_iload_n hx hb dX0_dropEdgePoints_61 rfl (lv_at hl 2 rfl) ?_
              refine lv_iconst (v := nI 0) hx hb dX0_dropEdgePoints_62 (by decide) ?_
              refine va_callv (va_runV (As := [.int (nI (2 * i)), .int (nI 0)]) (rest := []) ⟨hx, hb, hml, hown, hts⟩ (conX0_write l D T h a (dropZ f i) (nI (2 * i)) (nI 0) (rfl)) (cwV 2 hts gX0_dropEdgePoints_X0_write rfl rfl rfl (by decide +kernel) ⟨Nat.le_of_ble_eq_true rfl, Nat.le_of_ble_eq_true rfl⟩) (preV hK hh rfl ⟨hh, ha, hne⟩) rfl rfl hl.1 rfl (lv_room (Nat.le_of_ble_eq_true rfl)) dX0_dropEdgePoints_63 ⟨Nat.le_of_ble_eq_true rfl, Nat.le_of_ble_eq_true rfl⟩) hS (fun q _ h9 => (by have h8 : q = a := h9; rw [h8]; exact hA_a)) (fun q h9 => (by have h8 : q = a := h9; rw [h8]; exact hA_a)) (fun u t H1 locs1 ht hvm hw9 hB hz1 hk1 hS => ?_)
              try dsimp only at hB
              rw [ht] at hB
              replace hh := hh.kept (hk1 _ hh.lt (fun h9 => hne h9))
              have ha := hB
              refine lv_iinc (v := nI ((2 * i) + 2)) (lv' := [(1, .int (nI ((2 * i) + 2))), (3, .int (nI 0)), (2, .int (nI 1)), (0, .ref h)]) hx hb dX0_dropEdgePoints_66 hl (k := 2) rfl (inc_2 _) (by decide) rfl (fun ls hl => ?_)
              refine lv_goto (tgt := 2) hx hb dX0_dropEdgePoints_69 (by decide) ?_
              have e9 : nI ((2 * i) + 2) = nI (2 * (i + 1)) := by (first | rfl | (congr 1; omega))
              have e10 : (eN (T 0) 201 (wrZ (dropZ f i) (nI (2 * i)) (nI 0))) = (eN (T 0) 201 (dropZ f (i + 1))) := by first | (rw [dropZ_s, if_pos (by simp_all)]; done) | (rw [dropZ_s, if_neg (by simp_all)]; done)
              exact hnext _ _ _ ⟨hS, lv_sub (lv_ex hl 0 rfl (congrArg Value.int e9)) [0, 3] rfl, hh, (by rw [← e10]; exact ha)⟩
            · skip
              have c53 : ¬ (1 = 0) := fun q9 => c53 ((nc_eq (a := 1) (b := 0) (by omega) (by omega)).mpr q9)
              refine lv_iload_n hx hb dX0_dropEdgePoints_56 rfl (lv_at hl 0 rfl) ?_
              refine lv_if_ne (tgt := 66) hx hb dX0_dropEdgePoints_57 (by decide) (fun c57 => ?_) (fun c57 => ?_)
              · skip
                have c57 : ¬ (0 = 0) := fun q9 => c57 ((nc_eq (a := 0) (b := 0) (by omega) (by omega)).mpr q9)
                refine lv_iinc (v := nI ((2 * i) + 2)) (lv' := [(1, .int (nI ((2 * i) + 2))), (3, .int (nI 0)), (2, .int (nI 1)), (0, .ref h)]) hx hb dX0_dropEdgePoints_66 hl (k := 2) rfl (inc_2 _) (by decide) rfl (fun ls hl => ?_)
                refine lv_goto (tgt := 2) hx hb dX0_dropEdgePoints_69 (by decide) ?_
                have e11 : nI ((2 * i) + 2) = nI (2 * (i + 1)) := by (first | rfl | (congr 1; omega))
                have e12 : (eN (T 0) 201 (dropZ f i)) = (eN (T 0) 201 (dropZ f (i + 1))) := by first | (rw [dropZ_s, if_pos (by simp_all)]; done) | (rw [dropZ_s, if_neg (by simp_all)]; done)
                exact hnext _ _ _ ⟨hS, lv_sub (lv_ex hl 0 rfl (congrArg Value.int e11)) [0, 3] rfl, hh, (by rw [← e12]; exact ha)⟩
              · skip
                have c57 : 0 = 0 := (nc_eq (a := 0) (b := 0) (by omega) (by omega)).mp c57
                refine lv_aload_n hx hb dX0_dropEdgePoints_60 rfl (lv_at hl 3 rfl) ?_
                refine lv_iload_n hx hb dX0_dropEdgePoints_61 rfl (lv_at hl 2 rfl) ?_
                refine lv_iconst (v := nI 0) hx hb dX0_dropEdgePoints_62 (by decide) ?_
                refine va_callv (va_runV (As := [.int (nI (2 * i)), .int (nI 0)]) (rest := []) ⟨hx, hb, hml, hown, hts⟩ (conX0_write l D T h a (dropZ f i) (nI (2 * i)) (nI 0) (rfl)) (cwV 2 hts gX0_dropEdgePoints_X0_write rfl rfl rfl (by decide +kernel) ⟨Nat.le_of_ble_eq_true rfl, Nat.le_of_ble_eq_true rfl⟩) (preV hK hh rfl ⟨hh, ha, hne⟩) rfl rfl hl.1 rfl (lv_room (Nat.le_of_ble_eq_true rfl)) dX0_dropEdgePoints_63 ⟨Nat.le_of_ble_eq_true rfl, Nat.le_of_ble_eq_true rfl⟩) hS (fun q _ h9 => (by have h8 : q = a := h9; rw [h8]; exact hA_a)) (fun q h9 => (by have h8 : q = a := h9; rw [h8]; exact hA_a)) (fun u t H1 locs1 ht hvm hw9 hB hz1 hk1 hS => ?_)
                try dsimp only at hB
                rw [ht] at hB
                replace hh := hh.kept (hk1 _ hh.lt (fun h9 => hne h9))
                have ha := hB
                refine lv_iinc (v := nI ((2 * i) + 2)) (lv' := [(1, .int (nI ((2 * i) + 2))), (3, .int (nI 0)), (2, .int (nI 1)), (0, .ref h)]) hx hb dX0_dropEdgePoints_66 hl (k := 2) rfl (inc_2 _) (by decide) rfl (fun ls hl => ?_)
                refine lv_goto (tgt := 2) hx hb dX0_dropEdgePoints_69 (by decide) ?_
                have e13 : nI ((2 * i) + 2) = nI (2 * (i + 1)) := by (first | rfl | (congr 1; omega))
                have e14 : (eN (T 0) 201 (wrZ (dropZ f i) (nI (2 * i)) (nI 0))) = (eN (T 0) 201 (dropZ f (i + 1))) := by first | (rw [dropZ_s, if_pos (by simp_all)]; done) | (rw [dropZ_s, if_neg (by simp_all)]; done)
                exact hnext _ _ _ ⟨hS, lv_sub (lv_ex hl 0 rfl (congrArg Value.int e13)) [0, 3] rfl, hh, (by rw [← e14]; exact ha)⟩
          · skip
            refine lv_iconst (v := nI 1) hx hb dX0_dropEdgePoints_46 (by decide) ?_
            refine lv_goto (tgt := 51) hx hb dX0_dropEdgePoints_47 (by decide) ?_
            refine lv_istore_n (lv' := [(3, .int (nI 1)), (2, .int (nI 1)), (1, .int (nI (2 * i))), (0, .ref h)]) hx hb dX0_dropEdgePoints_51 rfl hl (by decide) rfl (fun ls hl => ?_)
            refine lv_iload_n hx hb dX0_dropEdgePoints_52 rfl (lv_at hl 1 rfl) ?_
            refine lv_if_eq (tgt := 60) hx hb dX0_dropEdgePoints_53 (by decide) (fun c53 => ?_) (fun c53 => ?_)
            · skip
              have c53 : 1 = 0 := (nc_eq (a := 1) (b := 0) (by omega) (by omega)).mp c53
              refine lv_aload_n hx hb dX0_dropEdgePoints_60 rfl (lv_at hl 3 rfl) ?_
              refine lv_iload_n hx hb dX0_dropEdgePoints_61 rfl (lv_at hl 2 rfl) ?_
              refine lv_iconst (v := nI 0) hx hb dX0_dropEdgePoints_62 (by decide) ?_
              refine va_callv (va_runV (As := [.int (nI (2 * i)), .int (nI 0)]) (rest := []) ⟨hx, hb, hml, hown, hts⟩ (conX0_write l D T h a (dropZ f i) (nI (2 * i)) (nI 0) (rfl)) (cwV 2 hts gX0_dropEdgePoints_X0_write rfl rfl rfl (by decide +kernel) ⟨Nat.le_of_ble_eq_true rfl, Nat.le_of_ble_eq_true rfl⟩) (preV hK hh rfl ⟨hh, ha, hne⟩) rfl rfl hl.1 rfl (lv_room (Nat.le_of_ble_eq_true rfl)) dX0_dropEdgePoints_63 ⟨Nat.le_of_ble_eq_true rfl, Nat.le_of_ble_eq_true rfl⟩) hS (fun q _ h9 => (by have h8 : q = a := h9; rw [h8]; exact hA_a)) (fun q h9 => (by have h8 : q = a := h9; rw [h8]; exact hA_a)) (fun u t H1 locs1 ht hvm hw9 hB hz1 hk1 hS => ?_)
              try dsimp only at hB
              rw [ht] at hB
              replace hh := hh.kept (hk1 _ hh.lt (fun h9 => hne h9))
              have ha := hB
              refine lv_iinc (v := nI ((2 * i) + 2)) (lv' := [(1, .int (nI ((2 * i) + 2))), (3, .int (nI 1)), (2, .int (nI 1)), (0, .ref h)]) hx hb dX0_dropEdgePoints_66 hl (k := 2) rfl (inc_2 _) (by decide) rfl (fun ls hl => ?_)
              refine lv_goto (tgt := 2) hx hb dX0_dropEdgePoints_69 (by decide) ?_
              have e15 : nI ((2 * i) + 2) = nI (2 * (i + 1)) := by (first | rfl | (congr 1; omega))
              have e16 : (eN (T 0) 201 (wrZ (dropZ f i) (nI (2 * i)) (nI 0))) = (eN (T 0) 201 (dropZ f (i + 1))) := by first | (rw [dropZ_s, if_pos (by simp_all)]; done) | (rw [dropZ_s, if_neg (by simp_all)]; done)
              exact hnext _ _ _ ⟨hS, lv_sub (lv_ex hl 0 rfl (congrArg Value.int e15)) [0, 3] rfl, hh, (by rw [← e16]; exact ha)⟩
            · skip
              have c53 : ¬ (1 = 0) := fun q9 => c53 ((nc_eq (a := 1) (b := 0) (by omega) (by omega)).mpr q9)
              refine lv_iload_n hx hb dX0_dropEdgePoints_56 rfl (lv_at hl 0 rfl) ?_
              refine lv_if_ne (tgt := 66) hx hb dX0_dropEdgePoints_57 (by decide) (fun c57 => ?_) (fun c57 => ?_)
              · skip
                have c57 : ¬ (1 = 0) := fun q9 => c57 ((nc_eq (a := 1) (b := 0) (by omega) (by omega)).mpr q9)
                refine lv_iinc (v := nI ((2 * i) + 2)) (lv' := [(1, .int (nI ((2 * i) + 2))), (3, .int (nI 1)), (2, .int (nI 1)), (0, .ref h)]) hx hb dX0_dropEdgePoints_66 hl (k := 2) rfl (inc_2 _) (by decide) rfl (fun ls hl => ?_)
                refine lv_goto (tgt := 2) hx hb dX0_dropEdgePoints_69 (by decide) ?_
                have e17 : nI ((2 * i) + 2) = nI (2 * (i + 1)) := by (first | rfl | (congr 1; omega))
                have e18 : (eN (T 0) 201 (dropZ f i)) = (eN (T 0) 201 (dropZ f (i + 1))) := by first | (rw [dropZ_s, if_pos (by simp_all)]; done) | (rw [dropZ_s, if_neg (by simp_all)]; done)
                exact hnext _ _ _ ⟨hS, lv_sub (lv_ex hl 0 rfl (congrArg Value.int e17)) [0, 3] rfl, hh, (by rw [← e18]; exact ha)⟩
              · skip
                have c57 : 1 = 0 := (nc_eq (a := 1) (b := 0) (by omega) (by omega)).mp c57
                refine lv_aload_n hx hb dX0_dropEdgePoints_60 rfl (lv_at hl 3 rfl) ?_
                refine lv_iload_n hx hb dX0_dropEdgePoints_61 rfl (lv_at hl 2 rfl) ?_
                refine lv_iconst (v := nI 0) hx hb dX0_dropEdgePoints_62 (by decide) ?_
                refine va_callv (va_runV (As := [.int (nI (2 * i)), .int (nI 0)]) (rest := []) ⟨hx, hb, hml, hown, hts⟩ (conX0_write l D T h a (dropZ f i) (nI (2 * i)) (nI 0) (rfl)) (cwV 2 hts gX0_dropEdgePoints_X0_write rfl rfl rfl (by decide +kernel) ⟨Nat.le_of_ble_eq_true rfl, Nat.le_of_ble_eq_true rfl⟩) (preV hK hh rfl ⟨hh, ha, hne⟩) rfl rfl hl.1 rfl (lv_room (Nat.le_of_ble_eq_true rfl)) dX0_dropEdgePoints_63 ⟨Nat.le_of_ble_eq_true rfl, Nat.le_of_ble_eq_true rfl⟩) hS (fun q _ h9 => (by have h8 : q = a := h9; rw [h8]; exact hA_a)) (fun q h9 => (by have h8 : q = a := h9; rw [h8]; exact hA_a)) (fun u t H1 locs1 ht hvm hw9 hB hz1 hk1 hS => ?_)
                try dsimp only at hB
                rw [ht] at hB
                replace hh := hh.kept (hk1 _ hh.lt (fun h9 => hne h9))
                have ha := hB
                refine lv_iinc (v := nI ((2 * i) + 2)) (lv' := [(1, .int (nI ((2 * i) + 2))), (3, .int (nI 1)), (2, .int (nI 1)), (0, .ref h)]) hx hb dX0_dropEdgePoints_66 hl (k := 2) rfl (inc_2 _) (by decide) rfl (fun ls hl => ?_)
                refine lv_goto (tgt := 2) hx hb dX0_dropEdgePoints_69 (by decide) ?_
                have e19 : nI ((2 * i) + 2) = nI (2 * (i + 1)) := by (first | rfl | (congr 1; omega))
                have e20 : (eN (T 0) 201 (wrZ (dropZ f i) (nI (2 * i)) (nI 0))) = (eN (T 0) 201 (dropZ f (i + 1))) := by first | (rw [dropZ_s, if_pos (by simp_all)]; done) | (rw [dropZ_s, if_neg (by simp_all)]; done)
                exact hnext _ _ _ ⟨hS, lv_sub (lv_ex hl 0 rfl (congrArg Value.int e19)) [0, 3] rfl, hh, (by rw [← e20]; exact ha)⟩
      · skip
        have c10 : ¬ (2 * i = 0) := fun q9 => c10 ((nc_eq (a := 2 * i) (b := 0) (by omega) (by omega)).mpr q9)
        refine lv_aload_n hx hb dX0_dropEdgePoints_13 rfl (lv_at hl 1 rfl) ?_
        refine lv_iload_n hx hb dX0_dropEdgePoints_14 rfl (lv_at hl 0 rfl) ?_
        refine lv_iconst (v := nI 1) hx hb dX0_dropEdgePoints_15 (by decide) ?_
        refine lv_isub hx hb dX0_dropEdgePoints_16 ?_
        refine vp_callSi (va_runV (As := [.int ((nI (2 * i)) - (nI 1))]) (rest := []) ⟨hx, hb, hml, hown, hts⟩ (conX0_holds l D T h a (dropZ f i) ((nI (2 * i)) - (nI 1))) (cwV 1 hts gX0_dropEdgePoints_X0_holds rfl rfl rfl (by decide +kernel) ⟨Nat.le_of_ble_eq_true rfl, Nat.le_of_ble_eq_true rfl⟩) (preV hK hh rfl ⟨hh, ha, hne⟩) rfl rfl hl.1 rfl (lv_room (Nat.le_of_ble_eq_true rfl)) dX0_dropEdgePoints_17 ⟨Nat.le_of_ble_eq_true rfl, Nat.le_of_ble_eq_true rfl⟩).run (fun r21 hr21 => ?_)
        subst hr21
        refine lv_if_eq (tgt := 27) hx hb dX0_dropEdgePoints_20 (by decide) (fun c20 => ?_) (fun c20 => ?_)
        · skip
          refine lv_iconst (v := nI 0) hx hb dX0_dropEdgePoints_27 (by decide) ?_
          refine lv_istore_n (lv' := [(2, .int (nI 0)), (1, .int (nI (2 * i))), (0, .ref h)]) hx hb dX0_dropEdgePoints_28 rfl hl (by decide) rfl (fun ls hl => ?_)
          refine lv_iload_n hx hb dX0_dropEdgePoints_29 rfl (lv_at hl 1 rfl) ?_
          refine lv_sipush (v := nI 200) hx hb dX0_dropEdgePoints_30 (by decide) ?_
          refine lv_icmp_eq (tgt := 46) hx hb dX0_dropEdgePoints_33 (by decide) (fun c33 => ?_) (fun c33 => ?_)
          · skip
            have c33 : 2 * i = 200 := (nc_eq (a := 2 * i) (b := 200) (by omega) (by omega)).mp c33
            refine lv_iconst (v := nI 1) hx hb dX0_dropEdgePoints_46 (by decide) ?_
            refine lv_goto (tgt := 51) hx hb dX0_dropEdgePoints_47 (by decide) ?_
            refine lv_istore_n (lv' := [(3, .int (nI 1)), (2, .int (nI 0)), (1, .int (nI (2 * i))), (0, .ref h)]) hx hb dX0_dropEdgePoints_51 rfl hl (by decide) rfl (fun ls hl => ?_)
            refine lv_iload_n hx hb dX0_dropEdgePoints_52 rfl (lv_at hl 1 rfl) ?_
            refine lv_if_eq (tgt := 60) hx hb dX0_dropEdgePoints_53 (by decide) (fun c53 => ?_) (fun c53 => ?_)
            · skip
              have c53 : 0 = 0 := (nc_eq (a := 0) (b := 0) (by omega) (by omega)).mp c53
              refine lv_aload_n hx hb dX0_dropEdgePoints_60 rfl (lv_at hl 3 rfl) ?_
              refine lv_iload_n hx hb dX0_dropEdgePoints_61 rfl (lv_at hl 2 rfl) ?_
              refine lv_iconst (v := nI 0) hx hb dX0_dropEdgePoints_62 (by decide) ?_
              refine va_callv (va_runV (As := [.int (nI (2 * i)), .int (nI 0)]) (rest := []) ⟨hx, hb, hml, hown, hts⟩ (conX0_write l D T h a (dropZ f i) (nI (2 * i)) (nI 0) (rfl)) (cwV 2 hts gX0_dropEdgePoints_X0_write rfl rfl rfl (by decide +kernel) ⟨Nat.le_of_ble_eq_true rfl, Nat.le_of_ble_eq_true rfl⟩) (preV hK hh rfl ⟨hh, ha, hne⟩) rfl rfl hl.1 rfl (lv_room (Nat.le_of_ble_eq_true rfl)) dX0_dropEdgePoints_63 ⟨Nat.le_of_ble_eq_true rfl, Nat.le_of_ble_eq_true rfl⟩) hS (fun q _ h9 => (by have h8 : q = a := h9; rw [h8]; exact hA_a)) (fun q h9 => (by have h8 : q = a := h9; rw [h8]; exact hA_a)) (fun u t H1 locs1 ht hvm hw9 hB hz1 hk1 hS => ?_)
              try dsimp only at hB
              rw [ht] at hB
              replace hh := hh.kept (hk1 _ hh.lt (fun h9 => hne h9))
              have ha := hB
              refine lv_iinc (v := nI ((2 * i) + 2)) (lv' := [(1, .int (nI ((2 * i) + 2))), (3, .int (nI 1)), (2, .int (nI 0)), (0, .ref h)]) hx hb dX0_dropEdgePoints_66 hl (k := 2) rfl (inc_2 _) (by decide) rfl (fun ls hl => ?_)
              refine lv_goto (tgt := 2) hx hb dX0_dropEdgePoints_69 (by decide) ?_
              have e22 : nI ((2 * i) + 2) = nI (2 * (i + 1)) := by (first | rfl | (congr 1; omega))
              have e23 : (eN (T 0) 201 (wrZ (dropZ f i) (nI (2 * i)) (nI 0))) = (eN (T 0) 201 (dropZ f (i + 1))) := by first | (rw [dropZ_s, if_pos (by simp_all)]; done) | (rw [dropZ_s, if_neg (by simp_all)]; done)
              exact hnext _ _ _ ⟨hS, lv_sub (lv_ex hl 0 rfl (congrArg Value.int e22)) [0, 3] rfl, hh, (by rw [← e23]; exact ha)⟩
            · skip
              have c53 : ¬ (0 = 0) := fun q9 => c53 ((nc_eq (a := 0) (b := 0) (by omega) (by omega)).mpr q9)
              refine lv_iload_n hx hb dX0_dropEdgePoints_56 rfl (lv_at hl 0 rfl) ?_
              refine lv_if_ne (tgt := 66) hx hb dX0_dropEdgePoints_57 (by decide) (fun c57 => ?_) (fun c57 => ?_)
              · skip
                have c57 : ¬ (1 = 0) := fun q9 => c57 ((nc_eq (a := 1) (b := 0) (by omega) (by omega)).mpr q9)
                refine lv_iinc (v := nI ((2 * i) + 2)) (lv' := [(1, .int (nI ((2 * i) + 2))), (3, .int (nI 1)), (2, .int (nI 0)), (0, .ref h)]) hx hb dX0_dropEdgePoints_66 hl (k := 2) rfl (inc_2 _) (by decide) rfl (fun ls hl => ?_)
                refine lv_goto (tgt := 2) hx hb dX0_dropEdgePoints_69 (by decide) ?_
                have e24 : nI ((2 * i) + 2) = nI (2 * (i + 1)) := by (first | rfl | (congr 1; omega))
                have e25 : (eN (T 0) 201 (dropZ f i)) = (eN (T 0) 201 (dropZ f (i + 1))) := by first | (rw [dropZ_s, if_pos (by simp_all)]; done) | (rw [dropZ_s, if_neg (by simp_all)]; done)
                exact hnext _ _ _ ⟨hS, lv_sub (lv_ex hl 0 rfl (congrArg Value.int e24)) [0, 3] rfl, hh, (by rw [← e25]; exact ha)⟩
              · skip
                have c57 : 1 = 0 := (nc_eq (a := 1) (b := 0) (by omega) (by omega)).mp c57
                refine lv_aload_n hx hb dX0_dropEdgePoints_60 rfl (lv_at hl 3 rfl) ?_
                refine lv_iload_n hx hb dX0_dropEdgePoints_61 rfl (lv_at hl 2 rfl) ?_
                refine lv_iconst (v := nI 0) hx hb dX0_dropEdgePoints_62 (by decide) ?_
                refine va_callv (va_runV (As := [.int (nI (2 * i)), .int (nI 0)]) (rest := []) ⟨hx, hb, hml, hown, hts⟩ (conX0_write l D T h a (dropZ f i) (nI (2 * i)) (nI 0) (rfl)) (cwV 2 hts gX0_dropEdgePoints_X0_write rfl rfl rfl (by decide +kernel) ⟨Nat.le_of_ble_eq_true rfl, Nat.le_of_ble_eq_true rfl⟩) (preV hK hh rfl ⟨hh, ha, hne⟩) rfl rfl hl.1 rfl (lv_room (Nat.le_of_ble_eq_true rfl)) dX0_dropEdgePoints_63 ⟨Nat.le_of_ble_eq_true rfl, Nat.le_of_ble_eq_true rfl⟩) hS (fun q _ h9 => (by have h8 : q = a := h9; rw [h8]; exact hA_a)) (fun q h9 => (by have h8 : q = a := h9; rw [h8]; exact hA_a)) (fun u t H1 locs1 ht hvm hw9 hB hz1 hk1 hS => ?_)
                try dsimp only at hB
                rw [ht] at hB
                replace hh := hh.kept (hk1 _ hh.lt (fun h9 => hne h9))
                have ha := hB
                refine lv_iinc (v := nI ((2 * i) + 2)) (lv' := [(1, .int (nI ((2 * i) + 2))), (3, .int (nI 1)), (2, .int (nI 0)), (0, .ref h)]) hx hb dX0_dropEdgePoints_66 hl (k := 2) rfl (inc_2 _) (by decide) rfl (fun ls hl => ?_)
                refine lv_goto (tgt := 2) hx hb dX0_dropEdgePoints_69 (by decide) ?_
                have e26 : nI ((2 * i) + 2) = nI (2 * (i + 1)) := by (first | rfl | (congr 1; omega))
                have e27 : (eN (T 0) 201 (wrZ (dropZ f i) (nI (2 * i)) (nI 0))) = (eN (T 0) 201 (dropZ f (i + 1))) := by first | (rw [dropZ_s, if_pos (by simp_all)]; done) | (rw [dropZ_s, if_neg (by simp_all)]; done)
                exact hnext _ _ _ ⟨hS, lv_sub (lv_ex hl 0 rfl (congrArg Value.int e26)) [0, 3] rfl, hh, (by rw [← e27]; exact ha)⟩
          · skip
            have c33 : ¬ (2 * i = 200) := fun q9 => c33 ((nc_eq (a := 2 * i) (b := 200) (by omega) (by omega)).mpr q9)
            refine lv_aload_n hx hb dX0_dropEdgePoints_36 rfl (lv_at hl 2 rfl) ?_
            refine lv_iload_n hx hb dX0_dropEdgePoints_37 rfl (lv_at hl 1 rfl) ?_
            refine lv_iconst (v := nI 1) hx hb dX0_dropEdgePoints_38 (by decide) ?_
            refine lv_iadd hx hb dX0_dropEdgePoints_39 ?_
            rw [nI_add]
            refine vp_callSi (va_runV (As := [.int (nI ((2 * i) + 1))]) (rest := []) ⟨hx, hb, hml, hown, hts⟩ (conX0_holds l D T h a (dropZ f i) (nI ((2 * i) + 1))) (cwV 1 hts gX0_dropEdgePoints_X0_holds rfl rfl rfl (by decide +kernel) ⟨Nat.le_of_ble_eq_true rfl, Nat.le_of_ble_eq_true rfl⟩) (preV hK hh rfl ⟨hh, ha, hne⟩) rfl rfl hl.1 rfl (lv_room (Nat.le_of_ble_eq_true rfl)) dX0_dropEdgePoints_40 ⟨Nat.le_of_ble_eq_true rfl, Nat.le_of_ble_eq_true rfl⟩).run (fun r28 hr28 => ?_)
            subst hr28
            refine lv_if_eq (tgt := 50) hx hb dX0_dropEdgePoints_43 (by decide) (fun c43 => ?_) (fun c43 => ?_)
            · skip
              refine lv_iconst (v := nI 0) hx hb dX0_dropEdgePoints_50 (by decide) ?_
              refine lv_istore_n (lv' := [(3, .int (nI 0)), (2, .int (nI 0)), (1, .int (nI (2 * i))), (0, .ref h)]) hx hb dX0_dropEdgePoints_51 rfl hl (by decide) rfl (fun ls hl => ?_)
              refine lv_iload_n hx hb dX0_dropEdgePoints_52 rfl (lv_at hl 1 rfl) ?_
              refine lv_if_eq (tgt := 60) hx hb dX0_dropEdgePoints_53 (by decide) (fun c53 => ?_) (fun c53 => ?_)
              · skip
                have c53 : 0 = 0 := (nc_eq (a := 0) (b := 0) (by omega) (by omega)).mp c53
                refine lv_aload_n hx hb dX0_dropEdgePoints_60 rfl (lv_at hl 3 rfl) ?_
                refine lv_iload_n hx hb dX0_dropEdgePoints_61 rfl (lv_at hl 2 rfl) ?_
                refine lv_iconst (v := nI 0) hx hb dX0_dropEdgePoints_62 (by decide) ?_
                refine va_callv (va_runV (As := [.int (nI (2 * i)), .int (nI 0)]) (rest := []) ⟨hx, hb, hml, hown, hts⟩ (conX0_write l D T h a (dropZ f i) (nI (2 * i)) (nI 0) (rfl)) (cwV 2 hts gX0_dropEdgePoints_X0_write rfl rfl rfl (by decide +kernel) ⟨Nat.le_of_ble_eq_true rfl, Nat.le_of_ble_eq_true rfl⟩) (preV hK hh rfl ⟨hh, ha, hne⟩) rfl rfl hl.1 rfl (lv_room (Nat.le_of_ble_eq_true rfl)) dX0_dropEdgePoints_63 ⟨Nat.le_of_ble_eq_true rfl, Nat.le_of_ble_eq_true rfl⟩) hS (fun q _ h9 => (by have h8 : q = a := h9; rw [h8]; exact hA_a)) (fun q h9 => (by have h8 : q = a := h9; rw [h8]; exact hA_a)) (fun u t H1 locs1 ht hvm hw9 hB hz1 hk1 hS => ?_)
                try dsimp only at hB
                rw [ht] at hB
                replace hh := hh.kept (hk1 _ hh.lt (fun h9 => hne h9))
                have ha := hB
                refine lv_iinc (v := nI ((2 * i) + 2)) (lv' := [(1, .int (nI ((2 * i) + 2))), (3, .int (nI 0)), (2, .int (nI 0)), (0, .ref h)]) hx hb dX0_dropEdgePoints_66 hl (k := 2) rfl (inc_2 _) (by decide) rfl (fun ls hl => ?_)
                refine lv_goto (tgt := 2) hx hb dX0_dropEdgePoints_69 (by decide) ?_
                have e29 : nI ((2 * i) + 2) = nI (2 * (i + 1)) := by (first | rfl | (congr 1; omega))
                have e30 : (eN (T 0) 201 (wrZ (dropZ f i) (nI (2 * i)) (nI 0))) = (eN (T 0) 201 (dropZ f (i + 1))) := by first | (rw [dropZ_s, if_pos (by simp_all)]; done) | (rw [dropZ_s, if_neg (by simp_all)]; done)
                exact hnext _ _ _ ⟨hS, lv_sub (lv_ex hl 0 rfl (congrArg Value.int e29)) [0, 3] rfl, hh, (by rw [← e30]; exact ha)⟩
              · skip
                have c53 : ¬ (0 = 0) := fun q9 => c53 ((nc_eq (a := 0) (b := 0) (by omega) (by omega)).mpr q9)
                refine lv_iload_n hx hb dX0_dropEdgePoints_56 rfl (lv_at hl 0 rfl) ?_
                refine lv_if_ne (tgt := 66) hx hb dX0_dropEdgePoints_57 (by decide) (fun c57 => ?_) (fun c57 => ?_)
                · skip
                  have c57 : ¬ (0 = 0) := fun q9 => c57 ((nc_eq (a := 0) (b := 0) (by omega) (by omega)).mpr q9)
                  refine lv_iinc (v := nI ((2 * i) + 2)) (lv' := [(1, .int (nI ((2 * i) + 2))), (3, .int (nI 0)), (2, .int (nI 0)), (0, .ref h)]) hx hb dX0_dropEdgePoints_66 hl (k := 2) rfl (inc_2 _) (by decide) rfl (fun ls hl => ?_)
                  refine lv_goto (tgt := 2) hx hb dX0_dropEdgePoints_69 (by decide) ?_
                  have e31 : nI ((2 * i) + 2) = nI (2 * (i + 1)) := by (first | rfl | (congr 1; omega))
                  have e32 : (eN (T 0) 201 (dropZ f i)) = (eN (T 0) 201 (dropZ f (i + 1))) := by first | (rw [dropZ_s, if_pos (by simp_all)]; done) | (rw [dropZ_s, if_neg (by simp_all)]; done)
                  exact hnext _ _ _ ⟨hS, lv_sub (lv_ex hl 0 rfl (congrArg Value.int e31)) [0, 3] rfl, hh, (by rw [← e32]; exact ha)⟩
                · skip
                  have c57 : 0 = 0 := (nc_eq (a := 0) (b := 0) (by omega) (by omega)).mp c57
                  refine lv_aload_n hx hb dX0_dropEdgePoints_60 rfl (lv_at hl 3 rfl) ?_
                  refine lv_iload_n hx hb dX0_dropEdgePoints_61 rfl (lv_at hl 2 rfl) ?_
                  refine lv_iconst (v := nI 0) hx hb dX0_dropEdgePoints_62 (by decide) ?_
                  refine va_callv (va_runV (As := [.int (nI (2 * i)), .int (nI 0)]) (rest := []) ⟨hx, hb, hml, hown, hts⟩ (conX0_write l D T h a (dropZ f i) (nI (2 * i)) (nI 0) (rfl)) (cwV 2 hts gX0_dropEdgePoints_X0_write rfl rfl rfl (by decide +kernel) ⟨Nat.le_of_ble_eq_true rfl, Nat.le_of_ble_eq_true rfl⟩) (preV hK hh rfl ⟨hh, ha, hne⟩) rfl rfl hl.1 rfl (lv_room (Nat.le_of_ble_eq_true rfl)) dX0_dropEdgePoints_63 ⟨Nat.le_of_ble_eq_true rfl, Nat.le_of_ble_eq_true rfl⟩) hS (fun q _ h9 => (by have h8 : q = a := h9; rw [h8]; exact hA_a)) (fun q h9 => (by have h8 : q = a := h9; rw [h8]; exact hA_a)) (fun u t H1 locs1 ht hvm hw9 hB hz1 hk1 hS => ?_)
                  try dsimp only at hB
                  rw [ht] at hB
                  replace hh := hh.kept (hk1 _ hh.lt (fun h9 => hne h9))
                  have ha := hB
                  refine lv_iinc (v := nI ((2 * i) + 2)) (lv' := [(1, .int (nI ((2 * i) + 2))), (3, .int (nI 0)), (2, .int (nI 0)), (0, .ref h)]) hx hb dX0_dropEdgePoints_66 hl (k := 2) rfl (inc_2 _) (by decide) rfl (fun ls hl => ?_)
                  refine lv_goto (tgt := 2) hx hb dX0_dropEdgePoints_69 (by decide) ?_
                  have e33 : nI ((2 * i) + 2) = nI (2 * (i + 1)) := by (first | rfl | (congr 1; omega))
                  have e34 : (eN (T 0) 201 (wrZ (dropZ f i) (nI (2 * i)) (nI 0))) = (eN (T 0) 201 (dropZ f (i + 1))) := by first | (rw [dropZ_s, if_pos (by simp_all)]; done) | (rw [dropZ_s, if_neg (by simp_all)]; done)
                  exact hnext _ _ _ ⟨hS, lv_sub (lv_ex hl 0 rfl (congrArg Value.int e33)) [0, 3] rfl, hh, (by rw [← e34]; exact ha)⟩
            · skip
              refine lv_iconst (v := nI 1) hx hb dX0_dropEdgePoints_46 (by decide) ?_
              refine lv_goto (tgt := 51) hx hb dX0_dropEdgePoints_47 (by decide) ?_
              refine lv_istore_n (lv' := [(3, .int (nI 1)), (2, .int (nI 0)), (1, .int (nI (2 * i))), (0, .ref h)]) hx hb dX0_dropEdgePoints_51 rfl hl (by decide) rfl (fun ls hl => ?_)
              refine lv_iload_n hx hb dX0_dropEdgePoints_52 rfl (lv_at hl 1 rfl) ?_
              refine lv_if_eq (tgt := 60) hx hb dX0_dropEdgePoints_53 (by decide) (fun c53 => ?_) (fun c53 => ?_)
              · skip
                have c53 : 0 = 0 := (nc_eq (a := 0) (b := 0) (by omega) (by omega)).mp c53
                refine lv_aload_n hx hb dX0_dropEdgePoints_60 rfl (lv_at hl 3 rfl) ?_
                refine lv_iload_n hx hb dX0_dropEdgePoints_61 rfl (lv_at hl 2 rfl) ?_
                refine lv_iconst (v := nI 0) hx hb dX0_dropEdgePoints_62 (by decide) ?_
                refine va_callv (va_runV (As := [.int (nI (2 * i)), .int (nI 0)]) (rest := []) ⟨hx, hb, hml, hown, hts⟩ (conX0_write l D T h a (dropZ f i) (nI (2 * i)) (nI 0) (rfl)) (cwV 2 hts gX0_dropEdgePoints_X0_write rfl rfl rfl (by decide +kernel) ⟨Nat.le_of_ble_eq_true rfl, Nat.le_of_ble_eq_true rfl⟩) (preV hK hh rfl ⟨hh, ha, hne⟩) rfl rfl hl.1 rfl (lv_room (Nat.le_of_ble_eq_true rfl)) dX0_dropEdgePoints_63 ⟨Nat.le_of_ble_eq_true rfl, Nat.le_of_ble_eq_true rfl⟩) hS (fun q _ h9 => (by have h8 : q = a := h9; rw [h8]; exact hA_a)) (fun q h9 => (by have h8 : q = a := h9; rw [h8]; exact hA_a)) (fun u t H1 locs1 ht hvm hw9 hB hz1 hk1 hS => ?_)
                try dsimp only at hB
                rw [ht] at hB
                replace hh := hh.kept (hk1 _ hh.lt (fun h9 => hne h9))
                have ha := hB
                refine lv_iinc (v := nI ((2 * i) + 2)) (lv' := [(1, .int (nI ((2 * i) + 2))), (3, .int (nI 1)), (2, .int (nI 0)), (0, .ref h)]) hx hb dX0_dropEdgePoints_66 hl (k := 2) rfl (inc_2 _) (by decide) rfl (fun ls hl => ?_)
                refine lv_goto (tgt := 2) hx hb dX0_dropEdgePoints_69 (by decide) ?_
                have e35 : nI ((2 * i) + 2) = nI (2 * (i + 1)) := by (first | rfl | (congr 1; omega))
                have e36 : (eN (T 0) 201 (wrZ (dropZ f i) (nI (2 * i)) (nI 0))) = (eN (T 0) 201 (dropZ f (i + 1))) := by first | (rw [dropZ_s, if_pos (by simp_all)]; done) | (rw [dropZ_s, if_neg (by simp_all)]; done)
                exact hnext _ _ _ ⟨hS, lv_sub (lv_ex hl 0 rfl (congrArg Value.int e35)) [0, 3] rfl, hh, (by rw [← e36]; exact ha)⟩
              · skip
                have c53 : ¬ (0 = 0) := fun q9 => c53 ((nc_eq (a := 0) (b := 0) (by omega) (by omega)).mpr q9)
                refine lv_iload_n hx hb dX0_dropEdgePoints_56 rfl (lv_at hl 0 rfl) ?_
                refine lv_if_ne (tgt := 66) hx hb dX0_dropEdgePoints_57 (by decide) (fun c57 => ?_) (fun c57 => ?_)
                · skip
                  have c57 : ¬ (1 = 0) := fun q9 => c57 ((nc_eq (a := 1) (b := 0) (by omega) (by omega)).mpr q9)
                  refine lv_iinc (v := nI ((2 * i) + 2)) (lv' := [(1, .int (nI ((2 * i) + 2))), (3, .int (nI 1)), (2, .int (nI 0)), (0, .ref h)]) hx hb dX0_dropEdgePoints_66 hl (k := 2) rfl (inc_2 _) (by decide) rfl (fun ls hl => ?_)
                  refine lv_goto (tgt := 2) hx hb dX0_dropEdgePoints_69 (by decide) ?_
                  have e37 : nI ((2 * i) + 2) = nI (2 * (i + 1)) := by (first | rfl | (congr 1; omega))
                  have e38 : (eN (T 0) 201 (dropZ f i)) = (eN (T 0) 201 (dropZ f (i + 1))) := by first | (rw [dropZ_s, if_pos (by simp_all)]; done) | (rw [dropZ_s, if_neg (by simp_all)]; done)
                  exact hnext _ _ _ ⟨hS, lv_sub (lv_ex hl 0 rfl (congrArg Value.int e37)) [0, 3] rfl, hh, (by rw [← e38]; exact ha)⟩
                · skip
                  have c57 : 1 = 0 := (nc_eq (a := 1) (b := 0) (by omega) (by omega)).mp c57
                  refine lv_aload_n hx hb dX0_dropEdgePoints_60 rfl (lv_at hl 3 rfl) ?_
                  refine lv_iload_n hx hb dX0_dropEdgePoints_61 rfl (lv_at hl 2 rfl) ?_
                  refine lv_iconst (v := nI 0) hx hb dX0_dropEdgePoints_62 (by decide) ?_
                  refine va_callv (va_runV (As := [.int (nI (2 * i)), .int (nI 0)]) (rest := []) ⟨hx, hb, hml, hown, hts⟩ (conX0_write l D T h a (dropZ f i) (nI (2 * i)) (nI 0) (rfl)) (cwV 2 hts gX0_dropEdgePoints_X0_write rfl rfl rfl (by decide +kernel) ⟨Nat.le_of_ble_eq_true rfl, Nat.le_of_ble_eq_true rfl⟩) (preV hK hh rfl ⟨hh, ha, hne⟩) rfl rfl hl.1 rfl (lv_room (Nat.le_of_ble_eq_true rfl)) dX0_dropEdgePoints_63 ⟨Nat.le_of_ble_eq_true rfl, Nat.le_of_ble_eq_true rfl⟩) hS (fun q _ h9 => (by have h8 : q = a := h9; rw [h8]; exact hA_a)) (fun q h9 => (by have h8 : q = a := h9; rw [h8]; exact hA_a)) (fun u t H1 locs1 ht hvm hw9 hB hz1 hk1 hS => ?_)
                  try dsimp only at hB
                  rw [ht] at hB
                  replace hh := hh.kept (hk1 _ hh.lt (fun h9 => hne h9))
                  have ha := hB
                  refine lv_iinc (v := nI ((2 * i) + 2)) (lv' := [(1, .int (nI ((2 * i) + 2))), (3, .int (nI 1)), (2, .int (nI 0)), (0, .ref h)]) hx hb dX0_dropEdgePoints_66 hl (k := 2) rfl (inc_2 _) (by decide) rfl (fun ls hl => ?_)
                  refine lv_goto (tgt := 2) hx hb dX0_dropEdgePoints_69 (by decide) ?_
                  have e39 : nI ((2 * i) + 2) = nI (2 * (i + 1)) := by (first | rfl | (congr 1; omega))
                  have e40 : (eN (T 0) 201 (wrZ (dropZ f i) (nI (2 * i)) (nI 0))) = (eN (T 0) 201 (dropZ f (i + 1))) := by first | (rw [dropZ_s, if_pos (by simp_all)]; done) | (rw [dropZ_s, if_neg (by simp_all)]; done)
                  exact hnext _ _ _ ⟨hS, lv_sub (lv_ex hl 0 rfl (congrArg Value.int e39)) [0, 3] rfl, hh, (by rw [← e40]; exact ha)⟩
        · skip
          refine lv_iconst (v := nI 1) hx hb dX0_dropEdgePoints_23 (by decide) ?_
          refine lv_goto (tgt := 28) hx hb dX0_dropEdgePoints_24 (by decide) ?_
          refine lv_istore_n (lv' := [(2, .int (nI 1)), (1, .int (nI (2 * i))), (0, .ref h)]) hx hb dX0_dropEdgePoints_28 rfl hl (by decide) rfl (fun ls hl => ?_)
          refine lv_iload_n hx hb dX0_dropEdgePoints_29 rfl (lv_at hl 1 rfl) ?_
          refine lv_sipush (v := nI 200) hx hb dX0_dropEdgePoints_30 (by decide) ?_
          refine lv_icmp_eq (tgt := 46) hx hb dX0_dropEdgePoints_33 (by decide) (fun c33 => ?_) (fun c33 => ?_)
          · skip
            have c33 : 2 * i = 200 := (nc_eq (a := 2 * i) (b := 200) (by omega) (by omega)).mp c33
            refine lv_iconst (v := nI 1) hx hb dX0_dropEdgePoints_46 (by decide) ?_
            refine lv_goto (tgt := 51) hx hb dX0_dropEdgePoints_47 (by decide) ?_
            refine lv_istore_n (lv' := [(3, .int (nI 1)), (2, .int (nI 1)), (1, .int (nI (2 * i))), (0, .ref h)]) hx hb dX0_dropEdgePoints_51 rfl hl (by decide) rfl (fun ls hl => ?_)
            refine lv_iload_n hx hb dX0_dropEdgePoints_52 rfl (lv_at hl 1 rfl) ?_
            refine lv_if_eq (tgt := 60) hx hb dX0_dropEdgePoints_53 (by decide) (fun c53 => ?_) (fun c53 => ?_)
            · skip
              have c53 : 1 = 0 := (nc_eq (a := 1) (b := 0) (by omega) (by omega)).mp c53
              refine lv_aload_n hx hb dX0_dropEdgePoints_60 rfl (lv_at hl 3 rfl) ?_
              refine lv_iload_n hx hb dX0_dropEdgePoints_61 rfl (lv_at hl 2 rfl) ?_
              refine lv_iconst (v := nI 0) hx hb dX0_dropEdgePoints_62 (by decide) ?_
              refine va_callv (va_runV (As := [.int (nI (2 * i)), .int (nI 0)]) (rest := []) ⟨hx, hb, hml, hown, hts⟩ (conX0_write l D T h a (dropZ f i) (nI (2 * i)) (nI 0) (rfl)) (cwV 2 hts gX0_dropEdgePoints_X0_write rfl rfl rfl (by decide +kernel) ⟨Nat.le_of_ble_eq_true rfl, Nat.le_of_ble_eq_true rfl⟩) (preV hK hh rfl ⟨hh, ha, hne⟩) rfl rfl hl.1 rfl (lv_room (Nat.le_of_ble_eq_true rfl)) dX0_dropEdgePoints_63 ⟨Nat.le_of_ble_eq_true rfl, Nat.le_of_ble_eq_true rfl⟩) hS (fun q _ h9 => (by have h8 : q = a := h9; rw [h8]; exact hA_a)) (fun q h9 => (by have h8 : q = a := h9; rw [h8]; exact hA_a)) (fun u t H1 locs1 ht hvm hw9 hB hz1 hk1 hS => ?_)
              try dsimp only at hB
              rw [ht] at hB
              replace hh := hh.kept (hk1 _ hh.lt (fun h9 => hne h9))
              have ha := hB
              refine lv_iinc (v := nI ((2 * i) + 2)) (lv' := [(1, .int (nI ((2 * i) + 2))), (3, .int (nI 1)), (2, .int (nI 1)), (0, .ref h)]) hx hb dX0_dropEdgePoints_66 hl (k := 2) rfl (inc_2 _) (by decide) rfl (fun ls hl => ?_)
              refine lv_goto (tgt := 2) hx hb dX0_dropEdgePoints_69 (by decide) ?_
              have e41 : nI ((2 * i) + 2) = nI (2 * (i + 1)) := by (first | rfl | (congr 1; omega))
              have e42 : (eN (T 0) 201 (wrZ (dropZ f i) (nI (2 * i)) (nI 0))) = (eN (T 0) 201 (dropZ f (i + 1))) := by first | (rw [dropZ_s, if_pos (by simp_all)]; done) | (rw [dropZ_s, if_neg (by simp_all)]; done)
              exact hnext _ _ _ ⟨hS, lv_sub (lv_ex hl 0 rfl (congrArg Value.int e41)) [0, 3] rfl, hh, (by rw [← e42]; exact ha)⟩
            · skip
              have c53 : ¬ (1 = 0) := fun q9 => c53 ((nc_eq (a := 1) (b := 0) (by omega) (by omega)).mpr q9)
              refine lv_iload_n hx hb dX0_dropEdgePoints_56 rfl (lv_at hl 0 rfl) ?_
              refine lv_if_ne (tgt := 66) hx hb dX0_dropEdgePoints_57 (by decide) (fun c57 => ?_) (fun c57 => ?_)
              · skip
                have c57 : ¬ (1 = 0) := fun q9 => c57 ((nc_eq (a := 1) (b := 0) (by omega) (by omega)).mpr q9)
                refine lv_iinc (v := nI ((2 * i) + 2)) (lv' := [(1, .int (nI ((2 * i) + 2))), (3, .int (nI 1)), (2, .int (nI 1)), (0, .ref h)]) hx hb dX0_dropEdgePoints_66 hl (k := 2) rfl (inc_2 _) (by decide) rfl (fun ls hl => ?_)
                refine lv_goto (tgt := 2) hx hb dX0_dropEdgePoints_69 (by decide) ?_
                have e43 : nI ((2 * i) + 2) = nI (2 * (i + 1)) := by (first | rfl | (congr 1; omega))
                have e44 : (eN (T 0) 201 (dropZ f i)) = (eN (T 0) 201 (dropZ f (i + 1))) := by first | (rw [dropZ_s, if_pos (by simp_all)]; done) | (rw [dropZ_s, if_neg (by simp_all)]; done)
                exact hnext _ _ _ ⟨hS, lv_sub (lv_ex hl 0 rfl (congrArg Value.int e43)) [0, 3] rfl, hh, (by rw [← e44]; exact ha)⟩
              · skip
                have c57 : 1 = 0 := (nc_eq (a := 1) (b := 0) (by omega) (by omega)).mp c57
                refine lv_aload_n hx hb dX0_dropEdgePoints_60 rfl (lv_at hl 3 rfl) ?_
                refine lv_iload_n hx hb dX0_dropEdgePoints_61 rfl (lv_at hl 2 rfl) ?_
                refine lv_iconst (v := nI 0) hx hb dX0_dropEdgePoints_62 (by decide) ?_
                refine va_callv (va_runV (As := [.int (nI (2 * i)), .int (nI 0)]) (rest := []) ⟨hx, hb, hml, hown, hts⟩ (conX0_write l D T h a (dropZ f i) (nI (2 * i)) (nI 0) (rfl)) (cwV 2 hts gX0_dropEdgePoints_X0_write rfl rfl rfl (by decide +kernel) ⟨Nat.le_of_ble_eq_true rfl, Nat.le_of_ble_eq_true rfl⟩) (preV hK hh rfl ⟨hh, ha, hne⟩) rfl rfl hl.1 rfl (lv_room (Nat.le_of_ble_eq_true rfl)) dX0_dropEdgePoints_63 ⟨Nat.le_of_ble_eq_true rfl, Nat.le_of_ble_eq_true rfl⟩) hS (fun q _ h9 => (by have h8 : q = a := h9; rw [h8]; exact hA_a)) (fun q h9 => (by have h8 : q = a := h9; rw [h8]; exact hA_a)) (fun u t H1 locs1 ht hvm hw9 hB hz1 hk1 hS => ?_)
                try dsimp only at hB
                rw [ht] at hB
                replace hh := hh.kept (hk1 _ hh.lt (fun h9 => hne h9))
                have ha := hB
                refine lv_iinc (v := nI ((2 * i) + 2)) (lv' := [(1, .int (nI ((2 * i) + 2))), (3, .int (nI 1)), (2, .int (nI 1)), (0, .ref h)]) hx hb dX0_dropEdgePoints_66 hl (k := 2) rfl (inc_2 _) (by decide) rfl (fun ls hl => ?_)
                refine lv_goto (tgt := 2) hx hb dX0_dropEdgePoints_69 (by decide) ?_
                have e45 : nI ((2 * i) + 2) = nI (2 * (i + 1)) := by (first | rfl | (congr 1; omega))
                have e46 : (eN (T 0) 201 (wrZ (dropZ f i) (nI (2 * i)) (nI 0))) = (eN (T 0) 201 (dropZ f (i + 1))) := by first | (rw [dropZ_s, if_pos (by simp_all)]; done) | (rw [dropZ_s, if_neg (by simp_all)]; done)
                exact hnext _ _ _ ⟨hS, lv_sub (lv_ex hl 0 rfl (congrArg Value.int e45)) [0, 3] rfl, hh, (by rw [← e46]; exact ha)⟩
          · skip
            have c33 : ¬ (2 * i = 200) := fun q9 => c33 ((nc_eq (a := 2 * i) (b := 200) (by omega) (by omega)).mpr q9)
            refine lv_aload_n hx hb dX0_dropEdgePoints_36 rfl (lv_at hl 2 rfl) ?_
            refine lv_iload_n hx hb dX0_dropEdgePoints_37 rfl (lv_at hl 1 rfl) ?_
            refine lv_iconst (v := nI 1) hx hb dX0_dropEdgePoints_38 (by decide) ?_
            refine lv_iadd hx hb dX0_dropEdgePoints_39 ?_
            rw [nI_add]
            refine vp_callSi (va_runV (As := [.int (nI ((2 * i) + 1))]) (rest := []) ⟨hx, hb, hml, hown, hts⟩ (conX0_holds l D T h a (dropZ f i) (nI ((2 * i) + 1))) (cwV 1 hts gX0_dropEdgePoints_X0_holds rfl rfl rfl (by decide +kernel) ⟨Nat.le_of_ble_eq_true rfl, Nat.le_of_ble_eq_true rfl⟩) (preV hK hh rfl ⟨hh, ha, hne⟩) rfl rfl hl.1 rfl (lv_room (Nat.le_of_ble_eq_true rfl)) dX0_dropEdgePoints_40 ⟨Nat.le_of_ble_eq_true rfl, Nat.le_of_ble_eq_true rfl⟩).run (fun r47 hr47 => ?_)
            subst hr47
            refine lv_if_eq (tgt := 50) hx hb dX0_dropEdgePoints_43 (by decide) (fun c43 => ?_) (fun c43 => ?_)
            · skip
              refine lv_iconst (v := nI 0) hx hb dX0_dropEdgePoints_50 (by decide) ?_
              refine lv_istore_n (lv' := [(3, .int (nI 0)), (2, .int (nI 1)), (1, .int (nI (2 * i))), (0, .ref h)]) hx hb dX0_dropEdgePoints_51 rfl hl (by decide) rfl (fun ls hl => ?_)
              refine lv_iload_n hx hb dX0_dropEdgePoints_52 rfl (lv_at hl 1 rfl) ?_
              refine lv_if_eq (tgt := 60) hx hb dX0_dropEdgePoints_53 (by decide) (fun c53 => ?_) (fun c53 => ?_)
              · skip
                have c53 : 1 = 0 := (nc_eq (a := 1) (b := 0) (by omega) (by omega)).mp c53
                refine lv_aload_n hx hb dX0_dropEdgePoints_60 rfl (lv_at hl 3 rfl) ?_
                refine lv_iload_n hx hb dX0_dropEdgePoints_61 rfl (lv_at hl 2 rfl) ?_
                refine lv_iconst (v := nI 0) hx hb dX0_dropEdgePoints_62 (by decide) ?_
                refine va_callv (va_runV (As := [.int (nI (2 * i)), .int (nI 0)]) (rest := []) ⟨hx, hb, hml, hown, hts⟩ (conX0_write l D T h a (dropZ f i) (nI (2 * i)) (nI 0) (rfl)) (cwV 2 hts gX0_dropEdgePoints_X0_write rfl rfl rfl (by decide +kernel) ⟨Nat.le_of_ble_eq_true rfl, Nat.le_of_ble_eq_true rfl⟩) (preV hK hh rfl ⟨hh, ha, hne⟩) rfl rfl hl.1 rfl (lv_room (Nat.le_of_ble_eq_true rfl)) dX0_dropEdgePoints_63 ⟨Nat.le_of_ble_eq_true rfl, Nat.le_of_ble_eq_true rfl⟩) hS (fun q _ h9 => (by have h8 : q = a := h9; rw [h8]; exact hA_a)) (fun q h9 => (by have h8 : q = a := h9; rw [h8]; exact hA_a)) (fun u t H1 locs1 ht hvm hw9 hB hz1 hk1 hS => ?_)
                try dsimp only at hB
                rw [ht] at hB
                replace hh := hh.kept (hk1 _ hh.lt (fun h9 => hne h9))
                have ha := hB
                refine lv_iinc (v := nI ((2 * i) + 2)) (lv' := [(1, .int (nI ((2 * i) + 2))), (3, .int (nI 0)), (2, .int (nI 1)), (0, .ref h)]) hx hb dX0_dropEdgePoints_66 hl (k := 2) rfl (inc_2 _) (by decide) rfl (fun ls hl => ?_)
                refine lv_goto (tgt := 2) hx hb dX0_dropEdgePoints_69 (by decide) ?_
                have e48 : nI ((2 * i) + 2) = nI (2 * (i + 1)) := by (first | rfl | (congr 1; omega))
                have e49 : (eN (T 0) 201 (wrZ (dropZ f i) (nI (2 * i)) (nI 0))) = (eN (T 0) 201 (dropZ f (i + 1))) := by first | (rw [dropZ_s, if_pos (by simp_all)]; done) | (rw [dropZ_s, if_neg (by simp_all)]; done)
                exact hnext _ _ _ ⟨hS, lv_sub (lv_ex hl 0 rfl (congrArg Value.int e48)) [0, 3] rfl, hh, (by rw [← e49]; exact ha)⟩
              · skip
                have c53 : ¬ (1 = 0) := fun q9 => c53 ((nc_eq (a := 1) (b := 0) (by omega) (by omega)).mpr q9)
                refine lv_iload_n hx hb dX0_dropEdgePoints_56 rfl (lv_at hl 0 rfl) ?_
                refine lv_if_ne (tgt := 66) hx hb dX0_dropEdgePoints_57 (by decide) (fun c57 => ?_) (fun c57 => ?_)
                · skip
                  have c57 : ¬ (0 = 0) := fun q9 => c57 ((nc_eq (a := 0) (b := 0) (by omega) (by omega)).mpr q9)
                  refine lv_iinc (v := nI ((2 * i) + 2)) (lv' := [(1, .int (nI ((2 * i) + 2))), (3, .int (nI 0)), (2, .int (nI 1)), (0, .ref h)]) hx hb dX0_dropEdgePoints_66 hl (k := 2) rfl (inc_2 _) (by decide) rfl (fun ls hl => ?_)
                  refine lv_goto (tgt := 2) hx hb dX0_dropEdgePoints_69 (by decide) ?_
                  have e50 : nI ((2 * i) + 2) = nI (2 * (i + 1)) := by (first | rfl | (congr 1; omega))
                  have e51 : (eN (T 0) 201 (dropZ f i)) = (eN (T 0) 201 (dropZ f (i + 1))) := by first | (rw [dropZ_s, if_pos (by simp_all)]; done) | (rw [dropZ_s, if_neg (by simp_all)]; done)
                  exact hnext _ _ _ ⟨hS, lv_sub (lv_ex hl 0 rfl (congrArg Value.int e50)) [0, 3] rfl, hh, (by rw [← e51]; exact ha)⟩
                · skip
                  have c57 : 0 = 0 := (nc_eq (a := 0) (b := 0) (by omega) (by omega)).mp c57
                  refine lv_aload_n hx hb dX0_dropEdgePoints_60 rfl (lv_at hl 3 rfl) ?_
                  refine lv_iload_n hx hb dX0_dropEdgePoints_61 rfl (lv_at hl 2 rfl) ?_
                  refine lv_iconst (v := nI 0) hx hb dX0_dropEdgePoints_62 (by decide) ?_
                  refine va_callv (va_runV (As := [.int (nI (2 * i)), .int (nI 0)]) (rest := []) ⟨hx, hb, hml, hown, hts⟩ (conX0_write l D T h a (dropZ f i) (nI (2 * i)) (nI 0) (rfl)) (cwV 2 hts gX0_dropEdgePoints_X0_write rfl rfl rfl (by decide +kernel) ⟨Nat.le_of_ble_eq_true rfl, Nat.le_of_ble_eq_true rfl⟩) (preV hK hh rfl ⟨hh, ha, hne⟩) rfl rfl hl.1 rfl (lv_room (Nat.le_of_ble_eq_true rfl)) dX0_dropEdgePoints_63 ⟨Nat.le_of_ble_eq_true rfl, Nat.le_of_ble_eq_true rfl⟩) hS (fun q _ h9 => (by have h8 : q = a := h9; rw [h8]; exact hA_a)) (fun q h9 => (by have h8 : q = a := h9; rw [h8]; exact hA_a)) (fun u t H1 locs1 ht hvm hw9 hB hz1 hk1 hS => ?_)
                  try dsimp only at hB
                  rw [ht] at hB
                  replace hh := hh.kept (hk1 _ hh.lt (fun h9 => hne h9))
                  have ha := hB
                  refine lv_iinc (v := nI ((2 * i) + 2)) (lv' := [(1, .int (nI ((2 * i) + 2))), (3, .int (nI 0)), (2, .int (nI 1)), (0, .ref h)]) hx hb dX0_dropEdgePoints_66 hl (k := 2) rfl (inc_2 _) (by decide) rfl (fun ls hl => ?_)
                  refine lv_goto (tgt := 2) hx hb dX0_dropEdgePoints_69 (by decide) ?_
                  have e52 : nI ((2 * i) + 2) = nI (2 * (i + 1)) := by (first | rfl | (congr 1; omega))
                  have e53 : (eN (T 0) 201 (wrZ (dropZ f i) (nI (2 * i)) (nI 0))) = (eN (T 0) 201 (dropZ f (i + 1))) := by first | (rw [dropZ_s, if_pos (by simp_all)]; done) | (rw [dropZ_s, if_neg (by simp_all)]; done)
                  exact hnext _ _ _ ⟨hS, lv_sub (lv_ex hl 0 rfl (congrArg Value.int e52)) [0, 3] rfl, hh, (by rw [← e53]; exact ha)⟩
            · skip
              refine lv_iconst (v := nI 1) hx hb dX0_dropEdgePoints_46 (by decide) ?_
              refine lv_goto (tgt := 51) hx hb dX0_dropEdgePoints_47 (by decide) ?_
              refine lv_istore_n (lv' := [(3, .int (nI 1)), (2, .int (nI 1)), (1, .int (nI (2 * i))), (0, .ref h)]) hx hb dX0_dropEdgePoints_51 rfl hl (by decide) rfl (fun ls hl => ?_)
              refine lv_iload_n hx hb dX0_dropEdgePoints_52 rfl (lv_at hl 1 rfl) ?_
              refine lv_if_eq (tgt := 60) hx hb dX0_dropEdgePoints_53 (by decide) (fun c53 => ?_) (fun c53 => ?_)
              · skip
                have c53 : 1 = 0 := (nc_eq (a := 1) (b := 0) (by omega) (by omega)).mp c53
                refine lv_aload_n hx hb dX0_dropEdgePoints_60 rfl (lv_at hl 3 rfl) ?_
                refine lv_iload_n hx hb dX0_dropEdgePoints_61 rfl (lv_at hl 2 rfl) ?_
                refine lv_iconst (v := nI 0) hx hb dX0_dropEdgePoints_62 (by decide) ?_
                refine va_callv (va_runV (As := [.int (nI (2 * i)), .int (nI 0)]) (rest := []) ⟨hx, hb, hml, hown, hts⟩ (conX0_write l D T h a (dropZ f i) (nI (2 * i)) (nI 0) (rfl)) (cwV 2 hts gX0_dropEdgePoints_X0_write rfl rfl rfl (by decide +kernel) ⟨Nat.le_of_ble_eq_true rfl, Nat.le_of_ble_eq_true rfl⟩) (preV hK hh rfl ⟨hh, ha, hne⟩) rfl rfl hl.1 rfl (lv_room (Nat.le_of_ble_eq_true rfl)) dX0_dropEdgePoints_63 ⟨Nat.le_of_ble_eq_true rfl, Nat.le_of_ble_eq_true rfl⟩) hS (fun q _ h9 => (by have h8 : q = a := h9; rw [h8]; exact hA_a)) (fun q h9 => (by have h8 : q = a := h9; rw [h8]; exact hA_a)) (fun u t H1 locs1 ht hvm hw9 hB hz1 hk1 hS => ?_)
                try dsimp only at hB
                rw [ht] at hB
                replace hh := hh.kept (hk1 _ hh.lt (fun h9 => hne h9))
                have ha := hB
                refine lv_iinc (v := nI ((2 * i) + 2)) (lv' := [(1, .int (nI ((2 * i) + 2))), (3, .int (nI 1)), (2, .int (nI 1)), (0, .ref h)]) hx hb dX0_dropEdgePoints_66 hl (k := 2) rfl (inc_2 _) (by decide) rfl (fun ls hl => ?_)
                refine lv_goto (tgt := 2) hx hb dX0_dropEdgePoints_69 (by decide) ?_
                have e54 : nI ((2 * i) + 2) = nI (2 * (i + 1)) := by (first | rfl | (congr 1; omega))
                have e55 : (eN (T 0) 201 (wrZ (dropZ f i) (nI (2 * i)) (nI 0))) = (eN (T 0) 201 (dropZ f (i + 1))) := by first | (rw [dropZ_s, if_pos (by simp_all)]; done) | (rw [dropZ_s, if_neg (by simp_all)]; done)
                exact hnext _ _ _ ⟨hS, lv_sub (lv_ex hl 0 rfl (congrArg Value.int e54)) [0, 3] rfl, hh, (by rw [← e55]; exact ha)⟩
              · skip
                have c53 : ¬ (1 = 0) := fun q9 => c53 ((nc_eq (a := 1) (b := 0) (by omega) (by omega)).mpr q9)
                refine lv_iload_n hx hb dX0_dropEdgePoints_56 rfl (lv_at hl 0 rfl) ?_
                refine lv_if_ne (tgt := 66) hx hb dX0_dropEdgePoints_57 (by decide) (fun c57 => ?_) (fun c57 => ?_)
                · skip
                  have c57 : ¬ (1 = 0) := fun q9 => c57 ((nc_eq (a := 1) (b := 0) (by omega) (by omega)).mpr q9)
                  refine lv_iinc (v := nI ((2 * i) + 2)) (lv' := [(1, .int (nI ((2 * i) + 2))), (3, .int (nI 1)), (2, .int (nI 1)), (0, .ref h)]) hx hb dX0_dropEdgePoints_66 hl (k := 2) rfl (inc_2 _) (by decide) rfl (fun ls hl => ?_)
                  refine lv_goto (tgt := 2) hx hb dX0_dropEdgePoints_69 (by decide) ?_
                  have e56 : nI ((2 * i) + 2) = nI (2 * (i + 1)) := by (first | rfl | (congr 1; omega))
                  have e57 : (eN (T 0) 201 (dropZ f i)) = (eN (T 0) 201 (dropZ f (i + 1))) := by first | (rw [dropZ_s, if_pos (by simp_all)]; done) | (rw [dropZ_s, if_neg (by simp_all)]; done)
                  exact hnext _ _ _ ⟨hS, lv_sub (lv_ex hl 0 rfl (congrArg Value.int e56)) [0, 3] rfl, hh, (by rw [← e57]; exact ha)⟩
                · skip
                  have c57 : 1 = 0 := (nc_eq (a := 1) (b := 0) (by omega) (by omega)).mp c57
                  refine lv_aload_n hx hb dX0_dropEdgePoints_60 rfl (lv_at hl 3 rfl) ?_
                  refine lv_iload_n hx hb dX0_dropEdgePoints_61 rfl (lv_at hl 2 rfl) ?_
                  refine lv_iconst (v := nI 0) hx hb dX0_dropEdgePoints_62 (by decide) ?_
                  refine va_callv (va_runV (As := [.int (nI (2 * i)), .int (nI 0)]) (rest := []) ⟨hx, hb, hml, hown, hts⟩ (conX0_write l D T h a (dropZ f i) (nI (2 * i)) (nI 0) (rfl)) (cwV 2 hts gX0_dropEdgePoints_X0_write rfl rfl rfl (by decide +kernel) ⟨Nat.le_of_ble_eq_true rfl, Nat.le_of_ble_eq_true rfl⟩) (preV hK hh rfl ⟨hh, ha, hne⟩) rfl rfl hl.1 rfl (lv_room (Nat.le_of_ble_eq_true rfl)) dX0_dropEdgePoints_63 ⟨Nat.le_of_ble_eq_true rfl, Nat.le_of_ble_eq_true rfl⟩) hS (fun q _ h9 => (by have h8 : q = a := h9; rw [h8]; exact hA_a)) (fun q h9 => (by have h8 : q = a := h9; rw [h8]; exact hA_a)) (fun u t H1 locs1 ht hvm hw9 hB hz1 hk1 hS => ?_)
                  try dsimp only at hB
                  rw [ht] at hB
                  replace hh := hh.kept (hk1 _ hh.lt (fun h9 => hne h9))
                  have ha := hB
                  refine lv_iinc (v := nI ((2 * i) + 2)) (lv' := [(1, .int (nI ((2 * i) + 2))), (3, .int (nI 1)), (2, .int (nI 1)), (0, .ref h)]) hx hb dX0_dropEdgePoints_66 hl (k := 2) rfl (inc_2 _) (by decide) rfl (fun ls hl => ?_)
                  refine lv_goto (tgt := 2) hx hb dX0_dropEdgePoints_69 (by decide) ?_
                  have e58 : nI ((2 * i) + 2) = nI (2 * (i + 1)) := by (first | rfl | (congr 1; omega))
                  have e59 : (eN (T 0) 201 (wrZ (dropZ f i) (nI (2 * i)) (nI 0))) = (eN (T 0) 201 (dropZ f (i + 1))) := by first | (rw [dropZ_s, if_pos (by simp_all)]; done) | (rw [dropZ_s, if_neg (by simp_all)]; done)
                  exact hnext _ _ _ ⟨hS, lv_sub (lv_ex hl 0 rfl (congrArg Value.int e58)) [0, 3] rfl, hh, (by rw [← e59]; exact ha)⟩
  · skip
    intro H locs ls hin9
    obtain ⟨hS, hl, hh, ha⟩ := hin9
    refine lv_iload_n hx hb dX0_dropEdgePoints_2 rfl (lv_at hl 0 rfl) ?_
    refine lv_sipush (v := nI 201) hx hb dX0_dropEdgePoints_3 (by decide) ?_
    refine lv_icmp_ge (tgt := 72) hx hb dX0_dropEdgePoints_6 (by decide) (fun c6 => ?_) (fun c6 => ?_)
    · skip
      have c6 : 201 ≤ 202 := (nc_le (a := 201) (b := 202) (by omega) (by omega)).mp c6
      exact W.vret hx hb hr (fun t ht _ => ⟨⟨(), rfl, trivial, by dsimp only; rw [ht]; exact ha⟩, hS.F ht⟩) hS.2.2 dX0_dropEdgePoints_72
    · skip
      have c6 : ¬ (201 ≤ 202) := fun q9 => c6 ((nc_le (a := 201) (b := 202) (by omega) (by omega)).mpr q9)
      omega

set_option maxHeartbeats 4000000 in
set_option maxRecDepth 100000 in
theorem conX0_addEdgePoints (l : Launch) (D : va_G) (T : Nat → ClassId) (h a : Nat) (f : Nat → Int32) : Met l yX0_addEdgePoints wsX0_addEdgePoints ({ frames := 1, cells := 0, slots := 0, locals := 22 }) (cP D T [.ref h] (fun H => GS D T h a f H)) (va_Qv (fun (_ : Unit) => True) (fun _ t => pAt D t.heap a (eN (T 0) 201 (edgZ (nI 1) f 101))) (fun q : Nat => q = a)) 0 0 (fun q : Nat => q = a) := by
  refine Met.ofW (cc := cX0_addEdgePoints) (maxL := 2) (ret := none) (by decide) rfl ?_
  intro p e s m args below meth c s₁ B hml hv9
  obtain ⟨rfl, hK, hh, ha, hne⟩ := hv9
  have hx := B.exec
  have hb := B.bytes
  have hr := B.returns
  have hts := atoms_spec (ws := wsX0_addEdgePoints) B.pre
  have hown : s.vm.findClass RX0 = some m.cls := findClass_of_methodNamed B.named
  have hlocks := B.notSynchronized
  generalize hAe : (fun q : Nat => q = a) = A
  have hA_a : A a := by subst hAe; first | rfl | exact Or.inl rfl | exact Or.inr rfl | (simp; done)
  have hS : va_S A s.heap s.heap [] := va_S.rf
  have hl := lv_entry ([.ref h]) (n := 2) (Nat.le_of_ble_eq_true rfl)
  rw [lg_entry_eq]
  generalize (lg_sl ([.ref h]) ++ List.replicate (2 - (lg_sl ([.ref h])).length) Slot.unset).toArray = ls at hl ⊢
  have hl : lv_has ls 2 [(0, .ref h)] := hl
  refine lv_iconst (v := nI 0) hx hb dX0_addEdgePoints_0 (by decide) ?_
  refine lv_istore_n (lv' := [(1, .int (nI 0)), (0, .ref h)]) hx hb dX0_addEdgePoints_1 rfl hl (by decide) rfl (fun ls hl => ?_)
  refine q_for (fun (i : Nat) (H : Heap) (locs : List Loc) (ls : Array Slot) => va_S A s.heap H locs ∧ lv_has ls 2 [(1, .int (nI (2 * i))), (0, .ref h)] ∧ pAt D H h (eO 0 [.ref a]) ∧ pAt D H a (eN (T 0) 201 (edgZ (nI 1) f i))) (N := 101) 0 (by omega) ?_ ?_ ?_
  · skip
    have e1 : (eN (T 0) 201 f) = (eN (T 0) 201 (edgZ (nI 1) f 0)) := by rfl
    exact ⟨hS, lv_sub hl [0, 1] rfl, hh, (by rw [← e1]; exact ha)⟩
  · skip
    intro i H locs ls hi9 hin9 hnext
    obtain ⟨hS, hl, hh, ha⟩ := hin9
    refine lv_iload_n hx hb dX0_addEdgePoints_2 rfl (lv_at hl 0 rfl) ?_
    refine lv_sipush (v := nI 201) hx hb dX0_addEdgePoints_3 (by decide) ?_
    refine lv_icmp_ge (tgt := 41) hx hb dX0_addEdgePoints_6 (by decide) (fun c6 => ?_) (fun c6 => ?_)
    · skip
      have c6 : 201 ≤ 2 * i := (nc_le (a := 201) (b := 2 * i) (by omega) (by omega)).mp c6
      omega
    · skip
      have c6 : ¬ (201 ≤ 2 * i) := fun q9 => c6 ((nc_le (a := 201) (b := 2 * i) (by omega) (by omega)).mpr q9)
      refine lv_aload_n hx hb dX0_addEdgePoints_9 rfl (lv_at hl 1 rfl) ?_
      refine lv_iload_n hx hb dX0_addEdgePoints_10 rfl (lv_at hl 0 rfl) ?_
      refine lv_iconst (v := nI 1) hx hb dX0_addEdgePoints_11 (by decide) ?_
      refine lv_isub hx hb dX0_addEdgePoints_12 ?_
      refine vp_callSi (va_runV (As := [.int ((nI (2 * i)) - (nI 1))]) (rest := []) ⟨hx, hb, hml, hown, hts⟩ (conX0_holds l D T h a (edgZ (nI 1) f i) ((nI (2 * i)) - (nI 1))) (cwV 1 hts gX0_addEdgePoints_X0_holds rfl rfl rfl (by decide +kernel) ⟨Nat.le_of_ble_eq_true rfl, Nat.le_of_ble_eq_true rfl⟩) (preV hK hh rfl ⟨hh, ha, hne⟩) rfl rfl hl.1 rfl (lv_room (Nat.le_of_ble_eq_true rfl)) dX0_addEdgePoints_13 ⟨Nat.le_of_ble_eq_true rfl, Nat.le_of_ble_eq_true rfl⟩).run (fun r2 hr2 => ?_)
      subst hr2
      refine lv_if_ne (tgt := 29) hx hb dX0_addEdgePoints_16 (by decide) (fun c16 => ?_) (fun c16 => ?_)
      · skip
        refine lv_aload_n hx hb dX0_addEdgePoints_29 rfl (lv_at hl 1 rfl) ?_
        refine lv_iload_n hx hb dX0_addEdgePoints_30 rfl (lv_at hl 0 rfl) ?_
        refine lv_iconst (v := nI 1) hx hb dX0_addEdgePoints_31 (by decide) ?_
        refine va_callv (va_runV (As := [.int (nI (2 * i)), .int (nI 1)]) (rest := []) ⟨hx, hb, hml, hown, hts⟩ (conX0_write l D T h a (edgZ (nI 1) f i) (nI (2 * i)) (nI 1) (rfl)) (cwV 2 hts gX0_addEdgePoints_X0_write rfl rfl rfl (by decide +kernel) ⟨Nat.le_of_ble_eq_true rfl, Nat.le_of_ble_eq_true rfl⟩) (preV hK hh rfl ⟨hh, ha, hne⟩) rfl rfl hl.1 rfl (lv_room (Nat.le_of_ble_eq_true rfl)) dX0_addEdgePoints_32 ⟨Nat.le_of_ble_eq_true rfl, Nat.le_of_ble_eq_true rfl⟩) hS (fun q _ h9 => (by have h8 : q = a := h9; rw [h8]; exact hA_a)) (fun q h9 => (by have h8 : q = a := h9; rw [h8]; exact hA_a)) (fun u t H1 locs1 ht hvm hw9 hB hz1 hk1 hS => ?_)
        try dsimp only at hB
        rw [ht] at hB
        replace hh := hh.kept (hk1 _ hh.lt (fun h9 => hne h9))
        have ha := hB
        refine lv_iinc (v := nI ((2 * i) + 2)) (lv' := [(1, .int (nI ((2 * i) + 2))), (0, .ref h)]) hx hb dX0_addEdgePoints_35 hl (k := 0) rfl (inc_2 _) (by decide) rfl (fun ls hl => ?_)
        refine lv_goto (tgt := 2) hx hb dX0_addEdgePoints_38 (by decide) ?_
        have e3 : nI ((2 * i) + 2) = nI (2 * (i + 1)) := by (first | rfl | (congr 1; omega))
        have e4 : (eN (T 0) 201 (wrZ (edgZ (nI 1) f i) (nI (2 * i)) (nI 1))) = (eN (T 0) 201 (edgZ (nI 1) f (i + 1))) := by first | (rw [edgZ_s, if_pos (by simp_all)]; done) | (rw [edgZ_s, if_neg (by simp_all)]; done)
        exact hnext _ _ _ ⟨hS, lv_sub (lv_ex hl 0 rfl (congrArg Value.int e3)) [0, 1] rfl, hh, (by rw [← e4]; exact ha)⟩
      · skip
        refine lv_aload_n hx hb dX0_addEdgePoints_19 rfl (lv_at hl 1 rfl) ?_
        refine lv_iload_n hx hb dX0_addEdgePoints_20 rfl (lv_at hl 0 rfl) ?_
        refine lv_iconst (v := nI 1) hx hb dX0_addEdgePoints_21 (by decide) ?_
        refine lv_iadd hx hb dX0_addEdgePoints_22 ?_
        rw [nI_add]
        refine vp_callSi (va_runV (As := [.int (nI ((2 * i) + 1))]) (rest := []) ⟨hx, hb, hml, hown, hts⟩ (conX0_holds l D T h a (edgZ (nI 1) f i) (nI ((2 * i) + 1))) (cwV 1 hts gX0_addEdgePoints_X0_holds rfl rfl rfl (by decide +kernel) ⟨Nat.le_of_ble_eq_true rfl, Nat.le_of_ble_eq_true rfl⟩) (preV hK hh rfl ⟨hh, ha, hne⟩) rfl rfl hl.1 rfl (lv_room (Nat.le_of_ble_eq_true rfl)) dX0_addEdgePoints_23 ⟨Nat.le_of_ble_eq_true rfl, Nat.le_of_ble_eq_true rfl⟩).run (fun r5 hr5 => ?_)
        subst hr5
        refine lv_if_eq (tgt := 35) hx hb dX0_addEdgePoints_26 (by decide) (fun c26 => ?_) (fun c26 => ?_)
        · skip
          refine lv_iinc (v := nI ((2 * i) + 2)) (lv' := [(1, .int (nI ((2 * i) + 2))), (0, .ref h)]) hx hb dX0_addEdgePoints_35 hl (k := 0) rfl (inc_2 _) (by decide) rfl (fun ls hl => ?_)
          refine lv_goto (tgt := 2) hx hb dX0_addEdgePoints_38 (by decide) ?_
          have e6 : nI ((2 * i) + 2) = nI (2 * (i + 1)) := by (first | rfl | (congr 1; omega))
          have e7 : (eN (T 0) 201 (edgZ (nI 1) f i)) = (eN (T 0) 201 (edgZ (nI 1) f (i + 1))) := by first | (rw [edgZ_s, if_pos (by simp_all)]; done) | (rw [edgZ_s, if_neg (by simp_all)]; done)
          exact hnext _ _ _ ⟨hS, lv_sub (lv_ex hl 0 rfl (congrArg Value.int e6)) [0, 1] rfl, hh, (by rw [← e7]; exact ha)⟩
        · skip
          refine lv_aload_n hx hb dX0_addEdgePoints_29 rfl (lv_at hl 1 rfl) ?_
          refine lv_iload_n hx hb dX0_addEdgePoints_30 rfl (lv_at hl 0 rfl) ?_
          refine lv_iconst (v := nI 1) hx hb dX0_addEdgePoints_31 (by decide) ?_
          refine va_callv (va_runV (As := [.int (nI (2 * i)), .int (nI 1)]) (rest := []) ⟨hx, hb, hml, hown, hts⟩ (conX0_write l D T h a (edgZ (nI 1) f i) (nI (2 * i)) (nI 1) (rfl)) (cwV 2 hts gX0_addEdgePoints_X0_write rfl rfl rfl (by decide +kernel) ⟨Nat.le_of_ble_eq_true rfl, Nat.le_of_ble_eq_true rfl⟩) (preV hK hh rfl ⟨hh, ha, hne⟩) rfl rfl hl.1 rfl (lv_room (Nat.le_of_ble_eq_true rfl)) dX0_addEdgePoints_32 ⟨Nat.le_of_ble_eq_true rfl, Nat.le_of_ble_eq_true rfl⟩) hS (fun q _ h9 => (by have h8 : q = a := h9; rw [h8]; exact hA_a)) (fun q h9 => (by have h8 : q = a := h9; rw [h8]; exact hA_a)) (fun u t H1 locs1 ht hvm hw9 hB hz1 hk1 hS => ?_)
          try dsimp only at hB
          rw [ht] at hB
          replace hh := hh.kept (hk1 _ hh.lt (fun h9 => hne h9))
          have ha := hB
          refine lv_iinc (v := nI ((2 * i) + 2)) (lv' := [(1, .int (nI ((2 * i) + 2))), (0, .ref h)]) hx hb dX0_addEdgePoints_35 hl (k := 0) rfl (inc_2 _) (by decide) rfl (fun ls hl => ?_)
          refine lv_goto (tgt := 2) hx hb dX0_addEdgePoints_38 (by decide) ?_
          have e8 : nI ((2 * i) + 2) = nI (2 * (i + 1)) := by (first | rfl | (congr 1; omega))
          have e9 : (eN (T 0) 201 (wrZ (edgZ (nI 1) f i) (nI (2 * i)) (nI 1))) = (eN (T 0) 201 (edgZ (nI 1) f (i + 1))) := by first | (rw [edgZ_s, if_pos (by simp_all)]; done) | (rw [edgZ_s, if_neg (by simp_all)]; done)
          exact hnext _ _ _ ⟨hS, lv_sub (lv_ex hl 0 rfl (congrArg Value.int e8)) [0, 1] rfl, hh, (by rw [← e9]; exact ha)⟩
  · skip
    intro H locs ls hin9
    obtain ⟨hS, hl, hh, ha⟩ := hin9
    refine lv_iload_n hx hb dX0_addEdgePoints_2 rfl (lv_at hl 0 rfl) ?_
    refine lv_sipush (v := nI 201) hx hb dX0_addEdgePoints_3 (by decide) ?_
    refine lv_icmp_ge (tgt := 41) hx hb dX0_addEdgePoints_6 (by decide) (fun c6 => ?_) (fun c6 => ?_)
    · skip
      have c6 : 201 ≤ 202 := (nc_le (a := 201) (b := 202) (by omega) (by omega)).mp c6
      exact W.vret hx hb hr (fun t ht _ => ⟨⟨(), rfl, trivial, by dsimp only; rw [ht]; exact ha⟩, hS.F ht⟩) hS.2.2 dX0_addEdgePoints_41
    · skip
      have c6 : ¬ (201 ≤ 202) := fun q9 => c6 ((nc_le (a := 201) (b := 202) (by omega) (by omega)).mpr q9)
      omega

set_option maxHeartbeats 4000000 in
set_option maxRecDepth 100000 in
theorem conX0_keepLonePoints (l : Launch) (D : va_G) (T : Nat → ClassId) (h a : Nat) (f : Nat → Int32) : Met l yX0_keepLonePoints wsX0_keepLonePoints ({ frames := 1, cells := 0, slots := 0, locals := 22 }) (cP D T [.ref h] (fun H => GS D T h a f H)) (va_Qv (fun (_ : Unit) => True) (fun _ t => pAt D t.heap a (eN (T 0) 201 (oddZ (edgZ (nI 0) f 101) 100))) (fun q : Nat => q = a)) 0 0 (fun q : Nat => q = a) := by
  refine Met.ofW (cc := cX0_keepLonePoints) (maxL := 2) (ret := none) (by decide) rfl ?_
  intro p e s m args below meth c s₁ B hml hv9
  obtain ⟨rfl, hK, hh, ha, hne⟩ := hv9
  have hx := B.exec
  have hb := B.bytes
  have hr := B.returns
  have hts := atoms_spec (ws := wsX0_keepLonePoints) B.pre
  have hown : s.vm.findClass RX0 = some m.cls := findClass_of_methodNamed B.named
  have hlocks := B.notSynchronized
  generalize hAe : (fun q : Nat => q = a) = A
  have hA_a : A a := by subst hAe; first | rfl | exact Or.inl rfl | exact Or.inr rfl | (simp; done)
  have hS : va_S A s.heap s.heap [] := va_S.rf
  have hl := lv_entry ([.ref h]) (n := 2) (Nat.le_of_ble_eq_true rfl)
  rw [lg_entry_eq]
  generalize (lg_sl ([.ref h]) ++ List.replicate (2 - (lg_sl ([.ref h])).length) Slot.unset).toArray = ls at hl ⊢
  have hl : lv_has ls 2 [(0, .ref h)] := hl
  refine lv_iconst (v := nI 0) hx hb dX0_keepLonePoints_0 (by decide) ?_
  refine lv_istore_n (lv' := [(1, .int (nI 0)), (0, .ref h)]) hx hb dX0_keepLonePoints_1 rfl hl (by decide) rfl (fun ls hl => ?_)
  refine q_for (fun (i : Nat) (H : Heap) (locs : List Loc) (ls : Array Slot) => va_S A s.heap H locs ∧ lv_has ls 2 [(1, .int (nI (2 * i))), (0, .ref h)] ∧ pAt D H h (eO 0 [.ref a]) ∧ pAt D H a (eN (T 0) 201 (edgZ (nI 0) f i))) (N := 101) 0 (by omega) ?_ ?_ ?_
  · skip
    have e1 : (eN (T 0) 201 f) = (eN (T 0) 201 (edgZ (nI 0) f 0)) := by rfl
    exact ⟨hS, lv_sub hl [0, 1] rfl, hh, (by rw [← e1]; exact ha)⟩
  · skip
    intro i H locs ls hi9 hin9 hnext
    obtain ⟨hS, hl, hh, ha⟩ := hin9
    refine lv_iload_n hx hb dX0_keepLonePoints_2 rfl (lv_at hl 0 rfl) ?_
    refine lv_sipush (v := nI 201) hx hb dX0_keepLonePoints_3 (by decide) ?_
    refine lv_icmp_ge (tgt := 41) hx hb dX0_keepLonePoints_6 (by decide) (fun c6 => ?_) (fun c6 => ?_)
    · skip
      have c6 : 201 ≤ 2 * i := (nc_le (a := 201) (b := 2 * i) (by omega) (by omega)).mp c6
      omega
    · skip
      have c6 : ¬ (201 ≤ 2 * i) := fun q9 => c6 ((nc_le (a := 201) (b := 2 * i) (by omega) (by omega)).mpr q9)
      refine lv_aload_n hx hb dX0_keepLonePoints_9 rfl (lv_at hl 1 rfl) ?_
      refine lv_iload_n hx hb dX0_keepLonePoints_10 rfl (lv_at hl 0 rfl) ?_
      refine lv_iconst (v := nI 1) hx hb dX0_keepLonePoints_11 (by decide) ?_
      refine lv_isub hx hb dX0_keepLonePoints_12 ?_
      refine vp_callSi (va_runV (As := [.int ((nI (2 * i)) - (nI 1))]) (rest := []) ⟨hx, hb, hml, hown, hts⟩ (conX0_holds l D T h a (edgZ (nI 0) f i) ((nI (2 * i)) - (nI 1))) (cwV 1 hts gX0_keepLonePoints_X0_holds rfl rfl rfl (by decide +kernel) ⟨Nat.le_of_ble_eq_true rfl, Nat.le_of_ble_eq_true rfl⟩) (preV hK hh rfl ⟨hh, ha, hne⟩) rfl rfl hl.1 rfl (lv_room (Nat.le_of_ble_eq_true rfl)) dX0_keepLonePoints_13 ⟨Nat.le_of_ble_eq_true rfl, Nat.le_of_ble_eq_true rfl⟩).run (fun r2 hr2 => ?_)
      subst hr2
      refine lv_if_ne (tgt := 29) hx hb dX0_keepLonePoints_16 (by decide) (fun c16 => ?_) (fun c16 => ?_)
      · skip
        refine lv_aload_n hx hb dX0_keepLonePoints_29 rfl (lv_at hl 1 rfl) ?_
        refine lv_iload_n hx hb dX0_keepLonePoints_30 rfl (lv_at hl 0 rfl) ?_
        refine lv_iconst (v := nI 0) hx hb dX0_keepLonePoints_31 (by decide) ?_
        refine va_callv (va_runV (As := [.int (nI (2 * i)), .int (nI 0)]) (rest := []) ⟨hx, hb, hml, hown, hts⟩ (conX0_write l D T h a (edgZ (nI 0) f i) (nI (2 * i)) (nI 0) (rfl)) (cwV 2 hts gX0_keepLonePoints_X0_write rfl rfl rfl (by decide +kernel) ⟨Nat.le_of_ble_eq_true rfl, Nat.le_of_ble_eq_true rfl⟩) (preV hK hh rfl ⟨hh, ha, hne⟩) rfl rfl hl.1 rfl (lv_room (Nat.le_of_ble_eq_true rfl)) dX0_keepLonePoints_32 ⟨Nat.le_of_ble_eq_true rfl, Nat.le_of_ble_eq_true rfl⟩) hS (fun q _ h9 => (by have h8 : q = a := h9; rw [h8]; exact hA_a)) (fun q h9 => (by have h8 : q = a := h9; rw [h8]; exact hA_a)) (fun u t H1 locs1 ht hvm hw9 hB hz1 hk1 hS => ?_)
        try dsimp only at hB
        rw [ht] at hB
        replace hh := hh.kept (hk1 _ hh.lt (fun h9 => hne h9))
        have ha := hB
        refine lv_iinc (v := nI ((2 * i) + 2)) (lv' := [(1, .int (nI ((2 * i) + 2))), (0, .ref h)]) hx hb dX0_keepLonePoints_35 hl (k := 0) rfl (inc_2 _) (by decide) rfl (fun ls hl => ?_)
        refine lv_goto (tgt := 2) hx hb dX0_keepLonePoints_38 (by decide) ?_
        have e3 : nI ((2 * i) + 2) = nI (2 * (i + 1)) := by (first | rfl | (congr 1; omega))
        have e4 : (eN (T 0) 201 (wrZ (edgZ (nI 0) f i) (nI (2 * i)) (nI 0))) = (eN (T 0) 201 (edgZ (nI 0) f (i + 1))) := by first | (rw [edgZ_s, if_pos (by simp_all)]; done) | (rw [edgZ_s, if_neg (by simp_all)]; done)
        exact hnext _ _ _ ⟨hS, lv_sub (lv_ex hl 0 rfl (congrArg Value.int e3)) [0, 1] rfl, hh, (by rw [← e4]; exact ha)⟩
      · skip
        refine lv_aload_n hx hb dX0_keepLonePoints_19 rfl (lv_at hl 1 rfl) ?_
        refine lv_iload_n hx hb dX0_keepLonePoints_20 rfl (lv_at hl 0 rfl) ?_
        refine lv_iconst (v := nI 1) hx hb dX0_keepLonePoints_21 (by decide) ?_
        refine lv_iadd hx hb dX0_keepLonePoints_22 ?_
        rw [nI_add]
        refine vp_callSi (va_runV (As := [.int (nI ((2 * i) + 1))]) (rest := []) ⟨hx, hb, hml, hown, hts⟩ (conX0_holds l D T h a (edgZ (nI 0) f i) (nI ((2 * i) + 1))) (cwV 1 hts gX0_keepLonePoints_X0_holds rfl rfl rfl (by decide +kernel) ⟨Nat.le_of_ble_eq_true rfl, Nat.le_of_ble_eq_true rfl⟩) (preV hK hh rfl ⟨hh, ha, hne⟩) rfl rfl hl.1 rfl (lv_room (Nat.le_of_ble_eq_true rfl)) dX0_keepLonePoints_23 ⟨Nat.le_of_ble_eq_true rfl, Nat.le_of_ble_eq_true rfl⟩).run (fun r5 hr5 => ?_)
        subst hr5
        refine lv_if_eq (tgt := 35) hx hb dX0_keepLonePoints_26 (by decide) (fun c26 => ?_) (fun c26 => ?_)
        · skip
          refine lv_iinc (v := nI ((2 * i) + 2)) (lv' := [(1, .int (nI ((2 * i) + 2))), (0, .ref h)]) hx hb dX0_keepLonePoints_35 hl (k := 0) rfl (inc_2 _) (by decide) rfl (fun ls hl => ?_)
          refine lv_goto (tgt := 2) hx hb dX0_keepLonePoints_38 (by decide) ?_
          have e6 : nI ((2 * i) + 2) = nI (2 * (i + 1)) := by (first | rfl | (congr 1; omega))
          have e7 : (eN (T 0) 201 (edgZ (nI 0) f i)) = (eN (T 0) 201 (edgZ (nI 0) f (i + 1))) := by first | (rw [edgZ_s, if_pos (by simp_all)]; done) | (rw [edgZ_s, if_neg (by simp_all)]; done)
          exact hnext _ _ _ ⟨hS, lv_sub (lv_ex hl 0 rfl (congrArg Value.int e6)) [0, 1] rfl, hh, (by rw [← e7]; exact ha)⟩
        · skip
          refine lv_aload_n hx hb dX0_keepLonePoints_29 rfl (lv_at hl 1 rfl) ?_
          refine lv_iload_n hx hb dX0_keepLonePoints_30 rfl (lv_at hl 0 rfl) ?_
          refine lv_iconst (v := nI 0) hx hb dX0_keepLonePoints_31 (by decide) ?_
          refine va_callv (va_runV (As := [.int (nI (2 * i)), .int (nI 0)]) (rest := []) ⟨hx, hb, hml, hown, hts⟩ (conX0_write l D T h a (edgZ (nI 0) f i) (nI (2 * i)) (nI 0) (rfl)) (cwV 2 hts gX0_keepLonePoints_X0_write rfl rfl rfl (by decide +kernel) ⟨Nat.le_of_ble_eq_true rfl, Nat.le_of_ble_eq_true rfl⟩) (preV hK hh rfl ⟨hh, ha, hne⟩) rfl rfl hl.1 rfl (lv_room (Nat.le_of_ble_eq_true rfl)) dX0_keepLonePoints_32 ⟨Nat.le_of_ble_eq_true rfl, Nat.le_of_ble_eq_true rfl⟩) hS (fun q _ h9 => (by have h8 : q = a := h9; rw [h8]; exact hA_a)) (fun q h9 => (by have h8 : q = a := h9; rw [h8]; exact hA_a)) (fun u t H1 locs1 ht hvm hw9 hB hz1 hk1 hS => ?_)
          try dsimp only at hB
          rw [ht] at hB
          replace hh := hh.kept (hk1 _ hh.lt (fun h9 => hne h9))
          have ha := hB
          refine lv_iinc (v := nI ((2 * i) + 2)) (lv' := [(1, .int (nI ((2 * i) + 2))), (0, .ref h)]) hx hb dX0_keepLonePoints_35 hl (k := 0) rfl (inc_2 _) (by decide) rfl (fun ls hl => ?_)
          refine lv_goto (tgt := 2) hx hb dX0_keepLonePoints_38 (by decide) ?_
          have e8 : nI ((2 * i) + 2) = nI (2 * (i + 1)) := by (first | rfl | (congr 1; omega))
          have e9 : (eN (T 0) 201 (wrZ (edgZ (nI 0) f i) (nI (2 * i)) (nI 0))) = (eN (T 0) 201 (edgZ (nI 0) f (i + 1))) := by first | (rw [edgZ_s, if_pos (by simp_all)]; done) | (rw [edgZ_s, if_neg (by simp_all)]; done)
          exact hnext _ _ _ ⟨hS, lv_sub (lv_ex hl 0 rfl (congrArg Value.int e8)) [0, 1] rfl, hh, (by rw [← e9]; exact ha)⟩
  · skip
    intro H locs ls hin9
    obtain ⟨hS, hl, hh, ha⟩ := hin9
    refine lv_iload_n hx hb dX0_keepLonePoints_2 rfl (lv_at hl 0 rfl) ?_
    refine lv_sipush (v := nI 201) hx hb dX0_keepLonePoints_3 (by decide) ?_
    refine lv_icmp_ge (tgt := 41) hx hb dX0_keepLonePoints_6 (by decide) (fun c6 => ?_) (fun c6 => ?_)
    · skip
      have c6 : 201 ≤ 202 := (nc_le (a := 201) (b := 202) (by omega) (by omega)).mp c6
      refine lv_iconst (v := nI 1) hx hb dX0_keepLonePoints_41 (by decide) ?_
      refine lv_istore_n (lv' := [(1, .int (nI 1)), (0, .ref h)]) hx hb dX0_keepLonePoints_42 rfl hl (by decide) rfl (fun ls hl => ?_)
      refine q_for (fun (i : Nat) (H : Heap) (locs : List Loc) (ls : Array Slot) => va_S A s.heap H locs ∧ lv_has ls 2 [(1, .int (nI (2 * i + 1))), (0, .ref h)] ∧ pAt D H h (eO 0 [.ref a]) ∧ pAt D H a (eN (T 0) 201 (oddZ (edgZ (nI 0) f 101) i))) (N := 100) 0 (by omega) ?_ ?_ ?_
      · skip
        have e10 : (eN (T 0) 201 (edgZ (nI 0) f 101)) = (eN (T 0) 201 (oddZ (edgZ (nI 0) f 101) 0)) := by (rw [oddZ_0])
        exact ⟨hS, lv_sub hl [0, 1] rfl, hh, (by rw [← e10]; exact ha)⟩
      · skip
        intro i H locs ls hi9 hin9 hnext
        obtain ⟨hS, hl, hh, ha⟩ := hin9
        refine lv_iload_n hx hb dX0_keepLonePoints_43 rfl (lv_at hl 0 rfl) ?_
        refine lv_sipush (v := nI 201) hx hb dX0_keepLonePoints_44 (by decide) ?_
        refine lv_icmp_ge (tgt := 62) hx hb dX0_keepLonePoints_47 (by decide) (fun c47 => ?_) (fun c47 => ?_)
        · skip
          have c47 : 201 ≤ 2 * i + 1 := (nc_le (a := 201) (b := 2 * i + 1) (by omega) (by omega)).mp c47
          omega
        · skip
          have c47 : ¬ (201 ≤ 2 * i + 1) := fun q9 => c47 ((nc_le (a := 201) (b := 2 * i + 1) (by omega) (by omega)).mpr q9)
          refine lv_aload_n hx hb dX0_keepLonePoints_50 rfl (lv_at hl 1 rfl) ?_
          refine lv_iload_n hx hb dX0_keepLonePoints_51 rfl (lv_at hl 0 rfl) ?_
          refine lv_iconst (v := nI 0) hx hb dX0_keepLonePoints_52 (by decide) ?_
          refine va_callv (va_runV (As := [.int (nI (2 * i + 1)), .int (nI 0)]) (rest := []) ⟨hx, hb, hml, hown, hts⟩ (conX0_write l D T h a (oddZ (edgZ (nI 0) f 101) i) (nI (2 * i + 1)) (nI 0) (rfl)) (cwV 2 hts gX0_keepLonePoints_X0_write rfl rfl rfl (by decide +kernel) ⟨Nat.le_of_ble_eq_true rfl, Nat.le_of_ble_eq_true rfl⟩) (preV hK hh rfl ⟨hh, ha, hne⟩) rfl rfl hl.1 rfl (lv_room (Nat.le_of_ble_eq_true rfl)) dX0_keepLonePoints_53 ⟨Nat.le_of_ble_eq_true rfl, Nat.le_of_ble_eq_true rfl⟩) hS (fun q _ h9 => (by have h8 : q = a := h9; rw [h8]; exact hA_a)) (fun q h9 => (by have h8 : q = a := h9; rw [h8]; exact hA_a)) (fun u t H1 locs1 ht hvm hw9 hB hz1 hk1 hS => ?_)
          try dsimp only at hB
          rw [ht] at hB
          replace hh := hh.kept (hk1 _ hh.lt (fun h9 => hne h9))
          have ha := hB
          refine lv_iinc (v := nI ((2 * i + 1) + 2)) (lv' := [(1, .int (nI ((2 * i + 1) + 2))), (0, .ref h)]) hx hb dX0_keepLonePoints_56 hl (k := 0) rfl (inc_2 _) (by decide) rfl (fun ls hl => ?_)
          refine lv_goto (tgt := 43) hx hb dX0_keepLonePoints_59 (by decide) ?_
          have e11 : nI ((2 * i + 1) + 2) = nI (2 * (i + 1) + 1) := by (first | rfl | (congr 1; omega))
          have e12 : (eN (T 0) 201 (wrZ (oddZ (edgZ (nI 0) f 101) i) (nI (2 * i + 1)) (nI 0))) = (eN (T 0) 201 (oddZ (edgZ (nI 0) f 101) (i + 1))) := by (rw [oddZ_s])
          exact hnext _ _ _ ⟨hS, lv_sub (lv_ex hl 0 rfl (congrArg Value.int e11)) [0, 1] rfl, hh, (by rw [← e12]; exact ha)⟩
      · skip
        intro H locs ls hin9
        obtain ⟨hS, hl, hh, ha⟩ := hin9
        refine lv_iload_n hx hb dX0_keepLonePoints_43 rfl (lv_at hl 0 rfl) ?_
        refine lv_sipush (v := nI 201) hx hb dX0_keepLonePoints_44 (by decide) ?_
        refine lv_icmp_ge (tgt := 62) hx hb dX0_keepLonePoints_47 (by decide) (fun c47 => ?_) (fun c47 => ?_)
        · skip
          have c47 : 201 ≤ 201 := (nc_le (a := 201) (b := 201) (by omega) (by omega)).mp c47
          exact W.vret hx hb hr (fun t ht _ => ⟨⟨(), rfl, trivial, by dsimp only; rw [ht]; exact ha⟩, hS.F ht⟩) hS.2.2 dX0_keepLonePoints_62
        · skip
          have c47 : ¬ (201 ≤ 201) := fun q9 => c47 ((nc_le (a := 201) (b := 201) (by omega) (by omega)).mpr q9)
          omega
    · skip
      have c6 : ¬ (201 ≤ 202) := fun q9 => c6 ((nc_le (a := 201) (b := 202) (by omega) (by omega)).mpr q9)
      omega

set_option maxHeartbeats 4000000 in
set_option maxRecDepth 100000 in
theorem conX0_mirror (l : Launch) (D : va_G) (T : Nat → ClassId) (h a : Nat) (f : Nat → Int32) : Met l yX0_mirror wsX0_mirror ({ frames := 1, cells := 0, slots := 0, locals := 22 }) (cP D T [.ref h] (fun H => GS D T h a f H)) (va_Qv (fun (_ : Unit) => True) (fun _ t => pAt D t.heap a (eN (T 0) 201 (mirZ f 100))) (fun q : Nat => q = a)) 0 0 (fun q : Nat => q = a) := by
  refine Met.ofW (cc := cX0_mirror) (maxL := 4) (ret := none) (by decide) rfl ?_
  intro p e s m args below meth c s₁ B hml hv9
  obtain ⟨rfl, hK, hh, ha, hne⟩ := hv9
  have hx := B.exec
  have hb := B.bytes
  have hr := B.returns
  have hts := atoms_spec (ws := wsX0_mirror) B.pre
  have hown : s.vm.findClass RX0 = some m.cls := findClass_of_methodNamed B.named
  have hlocks := B.notSynchronized
  generalize hAe : (fun q : Nat => q = a) = A
  have hA_a : A a := by subst hAe; first | rfl | exact Or.inl rfl | exact Or.inr rfl | (simp; done)
  have hS : va_S A s.heap s.heap [] := va_S.rf
  have hl := lv_entry ([.ref h]) (n := 4) (Nat.le_of_ble_eq_true rfl)
  rw [lg_entry_eq]
  generalize (lg_sl ([.ref h]) ++ List.replicate (4 - (lg_sl ([.ref h])).length) Slot.unset).toArray = ls at hl ⊢
  have hl : lv_has ls 4 [(0, .ref h)] := hl
  refine lv_iconst (v := nI 0) hx hb dX0_mirror_0 (by decide) ?_
  refine lv_istore_n (lv' := [(1, .int (nI 0)), (0, .ref h)]) hx hb dX0_mirror_1 rfl hl (by decide) rfl (fun ls hl => ?_)
  refine q_for (fun (i : Nat) (H : Heap) (locs : List Loc) (ls : Array Slot) => va_S A s.heap H locs ∧ lv_has ls 4 [(1, .int (nI i)), (0, .ref h)] ∧ pAt D H h (eO 0 [.ref a]) ∧ pAt D H a (eN (T 0) 201 (mirZ f i))) (N := 100) 0 (by omega) ?_ ?_ ?_
  · skip
    have e1 : (eN (T 0) 201 f) = (eN (T 0) 201 (mirZ f 0)) := by rfl
    exact ⟨hS, lv_sub hl [0, 1] rfl, hh, (by rw [← e1]; exact ha)⟩
  · skip
    intro i H locs ls hi9 hin9 hnext
    obtain ⟨hS, hl, hh, ha⟩ := hin9
    refine lv_iload_n hx hb dX0_mirror_2 rfl (lv_at hl 0 rfl) ?_
    refine lv_bipush (v := nI 100) hx hb dX0_mirror_3 (by decide) ?_
    refine lv_icmp_ge (tgt := 42) hx hb dX0_mirror_5 (by decide) (fun c5 => ?_) (fun c5 => ?_)
    · skip
      have c5 : 100 ≤ i := (nc_le (a := 100) (b := i) (by omega) (by omega)).mp c5
      omega
    · skip
      have c5 : ¬ (100 ≤ i) := fun q9 => c5 ((nc_le (a := 100) (b := i) (by omega) (by omega)).mpr q9)
      refine lv_sipush (v := nI 200) hx hb dX0_mirror_8 (by decide) ?_
      refine lv_iload_n hx hb dX0_mirror_11 rfl (lv_at hl 0 rfl) ?_
      refine lv_isub hx hb dX0_mirror_12 ?_
      refine lv_istore_n (lv' := [(2, .int ((nI 200) - (nI i))), (1, .int (nI i)), (0, .ref h)]) hx hb dX0_mirror_13 rfl hl (by decide) rfl (fun ls hl => ?_)
      refine lv_aload_n hx hb dX0_mirror_14 rfl (lv_at hl 2 rfl) ?_
      refine lv_iload_n hx hb dX0_mirror_15 rfl (lv_at hl 1 rfl) ?_
      refine vp_callSi (va_runV (As := [.int (nI i)]) (rest := []) ⟨hx, hb, hml, hown, hts⟩ (conX0_holds l D T h a (mirZ f i) (nI i)) (cwV 1 hts gX0_mirror_X0_holds rfl rfl rfl (by decide +kernel) ⟨Nat.le_of_ble_eq_true rfl, Nat.le_of_ble_eq_true rfl⟩) (preV hK hh rfl ⟨hh, ha, hne⟩) rfl rfl hl.1 rfl (lv_room (Nat.le_of_ble_eq_true rfl)) dX0_mirror_16 ⟨Nat.le_of_ble_eq_true rfl, Nat.le_of_ble_eq_true rfl⟩).run (fun r2 hr2 => ?_)
      subst hr2
      refine lv_istore_n (lv' := [(3, .int (holdZ (mirZ f i) (nI i))), (2, .int ((nI 200) - (nI i))), (1, .int (nI i)), (0, .ref h)]) hx hb dX0_mirror_19 rfl hl (by decide) rfl (fun ls hl => ?_)
      refine lv_aload_n hx hb dX0_mirror_20 rfl (lv_at hl 3 rfl) ?_
      refine lv_iload_n hx hb dX0_mirror_21 rfl (lv_at hl 2 rfl) ?_
      refine lv_aload_n hx hb dX0_mirror_22 rfl (lv_at hl 3 rfl) ?_
      refine lv_iload_n hx hb dX0_mirror_23 rfl (lv_at hl 1 rfl) ?_
      refine vp_callSi (va_runV (As := [.int ((nI 200) - (nI i))]) (rest := [.int (nI i), .ref h]) ⟨hx, hb, hml, hown, hts⟩ (conX0_holds l D T h a (mirZ f i) ((nI 200) - (nI i))) (cwV 1 hts gX0_mirror_X0_holds rfl rfl rfl (by decide +kernel) ⟨Nat.le_of_ble_eq_true rfl, Nat.le_of_ble_eq_true rfl⟩) (preV hK hh rfl ⟨hh, ha, hne⟩) rfl rfl hl.1 rfl (lv_room (Nat.le_of_ble_eq_true rfl)) dX0_mirror_24 ⟨Nat.le_of_ble_eq_true rfl, Nat.le_of_ble_eq_true rfl⟩).run (fun r3 hr3 => ?_)
      subst hr3
      refine va_callv (va_runV (As := [.int (nI i), .int (holdZ (mirZ f i) ((nI 200) - (nI i)))]) (rest := []) ⟨hx, hb, hml, hown, hts⟩ (conX0_write l D T h a (mirZ f i) (nI i) (holdZ (mirZ f i) ((nI 200) - (nI i))) (nar_holdZ _ _)) (cwV 2 hts gX0_mirror_X0_write rfl rfl rfl (by decide +kernel) ⟨Nat.le_of_ble_eq_true rfl, Nat.le_of_ble_eq_true rfl⟩) (preV hK hh rfl ⟨hh, ha, hne⟩) rfl rfl hl.1 rfl (lv_room (Nat.le_of_ble_eq_true rfl)) dX0_mirror_27 ⟨Nat.le_of_ble_eq_true rfl, Nat.le_of_ble_eq_true rfl⟩) hS (fun q _ h9 => (by have h8 : q = a := h9; rw [h8]; exact hA_a)) (fun q h9 => (by have h8 : q = a := h9; rw [h8]; exact hA_a)) (fun u t H1 locs1 ht hvm hw9 hB hz1 hk1 hS => ?_)
      try dsimp only at hB
      rw [ht] at hB
      replace hh := hh.kept (hk1 _ hh.lt (fun h9 => hne h9))
      have ha := hB
      refine lv_aload_n hx hb dX0_mirror_30 rfl (lv_at hl 3 rfl) ?_
      refine lv_iload_n hx hb dX0_mirror_31 rfl (lv_at hl 1 rfl) ?_
      refine lv_iload_n hx hb dX0_mirror_32 rfl (lv_at hl 0 rfl) ?_
      refine va_callv (va_runV (As := [.int ((nI 200) - (nI i)), .int (holdZ (mirZ f i) (nI i))]) (rest := []) ⟨hx, hb, hml, hown, hts⟩ (conX0_write l D T h a (wrZ (mirZ f i) (nI i) (holdZ (mirZ f i) ((nI 200) - (nI i)))) ((nI 200) - (nI i)) (holdZ (mirZ f i) (nI i)) (nar_holdZ _ _)) (cwV 2 hts gX0_mirror_X0_write rfl rfl rfl (by decide +kernel) ⟨Nat.le_of_ble_eq_true rfl, Nat.le_of_ble_eq_true rfl⟩) (preV hK hh rfl ⟨hh, ha, hne⟩) rfl rfl hl.1 rfl (lv_room (Nat.le_of_ble_eq_true rfl)) dX0_mirror_33 ⟨Nat.le_of_ble_eq_true rfl, Nat.le_of_ble_eq_true rfl⟩) hS (fun q _ h9 => (by have h8 : q = a := h9; rw [h8]; exact hA_a)) (fun q h9 => (by have h8 : q = a := h9; rw [h8]; exact hA_a)) (fun u t H1 locs1 ht hvm hw9 hB hz1 hk1 hS => ?_)
      try dsimp only at hB
      rw [ht] at hB
      replace hh := hh.kept (hk1 _ hh.lt (fun h9 => hne h9))
      have ha := hB
      refine lv_iinc (v := nI (i + 1)) (lv' := [(1, .int (nI (i + 1))), (3, .int (holdZ (mirZ f i) (nI i))), (2, .int ((nI 200) - (nI i))), (0, .ref h)]) hx hb dX0_mirror_36 hl (k := 2) rfl (inc_1 _) (by decide) rfl (fun ls hl => ?_)
      refine lv_goto (tgt := 2) hx hb dX0_mirror_39 (by decide) ?_
      have e4 : (eN (T 0) 201 (wrZ (wrZ (mirZ f i) (nI i) (holdZ (mirZ f i) ((nI 200) - (nI i)))) ((nI 200) - (nI i)) (holdZ (mirZ f i) (nI i)))) = (eN (T 0) 201 (mirZ f (i + 1))) := by (rw [mirZ_s])
      exact hnext _ _ _ ⟨hS, lv_sub hl [0, 3] rfl, hh, (by rw [← e4]; exact ha)⟩
  · skip
    intro H locs ls hin9
    obtain ⟨hS, hl, hh, ha⟩ := hin9
    refine lv_iload_n hx hb dX0_mirror_2 rfl (lv_at hl 0 rfl) ?_
    refine lv_bipush (v := nI 100) hx hb dX0_mirror_3 (by decide) ?_
    refine lv_icmp_ge (tgt := 42) hx hb dX0_mirror_5 (by decide) (fun c5 => ?_) (fun c5 => ?_)
    · skip
      have c5 : 100 ≤ 100 := (nc_le (a := 100) (b := 100) (by omega) (by omega)).mp c5
      exact W.vret hx hb hr (fun t ht _ => ⟨⟨(), rfl, trivial, by dsimp only; rw [ht]; exact ha⟩, hS.F ht⟩) hS.2.2 dX0_mirror_42
    · skip
      have c5 : ¬ (100 ≤ 100) := fun q9 => c5 ((nc_le (a := 100) (b := 100) (by omega) (by omega)).mpr q9)
      omega
