set_option maxHeartbeats 4000000 in
set_option maxRecDepth 100000 in
theorem conX3_raise (l : Launch) (D : va_G) (T : Nat → ClassId) (ad : Nat → Nat) (F V : Nat → Nat → Int32) (sr : SRs) (C : Nat → Int32) (k : Nat) (hk : k < 5) (a b ee : Nat) (x : Int32) (hab : a ≤ b) (hb9 : b ≤ 100) (he : ee ≤ 3) (h1 : ¬ x < -1000) (h2 : x ≤ nI 1000) : Met l yX3_raise wsX3_raise ({ frames := 2, cells := 0, slots := 0, locals := 43 }) (cP D T [.ref (ad 0), .int (nI k), .int (nI a), .int (nI b), .int (nI ee), .int x] (fun H => PLW D T ad F V sr C H)) (va_Qi (fun (r : Int32) (_ : Unit) => r = stepsV (raiV (V k) x (fgN a b ee) (lgN a b ee - fgN a b ee)) 200) (fun _ t => PLW D T ad F (va_up V k (raiV (V k) x (fgN a b ee) (lgN a b ee - fgN a b ee))) sr C t.heap) (PLA ad)) 0 0 (PLA ad) := by
  refine Met.ofW (cc := cX3_raise) (maxL := 9) (ret := (some .int)) (by decide) rfl ?_
  intro p e s m args below meth c s₁ B hml hv9
  obtain ⟨rfl, hK, hw⟩ := hv9
  have hx := B.exec
  have hb := B.bytes
  have hr := B.returns
  have hts := atoms_spec (ws := wsX3_raise) B.pre
  have hown : s.vm.findClass RX3 = some m.cls := findClass_of_methodNamed B.named
  have hlocks := B.notSynchronized
  generalize hAe : (PLA ad) = A
  have hA : ∀ i : Nat, i < 37 → A (ad i) := fun i hi => by subst hAe; exact ⟨i, hi, rfl⟩
  have hS : va_S A s.heap s.heap [] := va_S.rf
  have hl := lv_entry ([.ref (ad 0), .int (nI k), .int (nI a), .int (nI b), .int (nI ee), .int x]) (n := 9) (Nat.le_of_ble_eq_true rfl)
  rw [lg_entry_eq]
  generalize (lg_sl ([.ref (ad 0), .int (nI k), .int (nI a), .int (nI b), .int (nI ee), .int x]) ++ List.replicate (9 - (lg_sl ([.ref (ad 0), .int (nI k), .int (nI a), .int (nI b), .int (nI ee), .int x])).length) Slot.unset).toArray = ls at hl ⊢
  have hl : lv_has ls 9 [(0, .ref (ad 0)), (1, .int (nI k)), (2, .int (nI a)), (3, .int (nI b)), (4, .int (nI ee)), (5, .int x)] := hl
  have hfg : fgN a b ee ≤ 200 := fgN_le hab hb9
  have hlg : lgN a b ee ≤ 201 := lgN_le hb9
  refine lv_aload_n hx hb dX3_raise_0 rfl (lv_at hl 0 rfl) ?_
  refine lv_iload_n hx hb dX3_raise_1 rfl (lv_at hl 1 rfl) ?_
  refine va_csr (ad := fun k => .ref k) (va_runV (As := [.int (nI k)]) (rest := []) ⟨hx, hb, hml, hown, hts⟩ (conX3_functionAt l D T ad F V sr C k (by omega)) (cwV 1 hts gX3_raise_X3_functionAt rfl rfl rfl (by decide +kernel) ⟨Nat.le_of_ble_eq_true rfl, Nat.le_of_ble_eq_true rfl⟩) (preV hK hw.o rfl hw) rfl rfl hl.1 rfl (lv_room (Nat.le_of_ble_eq_true rfl)) dX3_raise_2 ⟨Nat.le_of_ble_eq_true rfl, Nat.le_of_ble_eq_true rfl⟩).run (fun r1 hr1 => ?_)
  subst hr1
  refine lv_astore (lv' := [(6, .ref (ad (22 + k))), (0, .ref (ad 0)), (1, .int (nI k)), (2, .int (nI a)), (3, .int (nI b)), (4, .int (nI ee)), (5, .int x)]) hx hb dX3_raise_5 hl (by decide) rfl (fun ls hl => ?_)
  refine lv_iload_n hx hb dX3_raise_7 rfl (lv_at hl 3 rfl) ?_
  refine lv_iload_n hx hb dX3_raise_8 rfl (lv_at hl 4 rfl) ?_
  refine lv_iload hx hb dX3_raise_9 (lv_at hl 5 rfl) ?_
  refine va_csv (va_runS (As := [.int (nI a), .int (nI b), .int (nI ee)]) (rest := []) ⟨hx, hb, hml, hown, hts⟩ (conX3_checkSpan l D T a b ee (by omega) (by omega) (by omega)) (va_cwS 3 hts gX3_raise_X3_checkSpan rfl rfl rfl (by decide +kernel) ⟨Nat.le_of_ble_eq_true rfl, Nat.le_of_ble_eq_true rfl⟩) (preS hK trivial) rfl rfl hl.1 rfl (lv_room (Nat.le_of_ble_eq_true rfl)) dX3_raise_11 ⟨Nat.le_of_ble_eq_true rfl, Nat.le_of_ble_eq_true rfl⟩).run (fun _ => ?_)
  refine lv_iload hx hb dX3_raise_14 (lv_at hl 6 rfl) ?_
  refine lv_sipush (v := (-1000)) hx hb dX3_raise_16 (by decide) ?_
  refine lv_icmp_lt (tgt := 30) hx hb dX3_raise_19 (by decide) (fun c19 => ?_) (fun c19 => ?_)
  · skip
    exact absurd c19 (h1)
  · skip
    refine lv_iload hx hb dX3_raise_22 (lv_at hl 6 rfl) ?_
    refine lv_sipush (v := nI 1000) hx hb dX3_raise_24 (by decide) ?_
    refine lv_icmp_le (tgt := 40) hx hb dX3_raise_27 (by decide) (fun c27 => ?_) (fun c27 => ?_)
    · skip
      refine lv_iload_n hx hb dX3_raise_40 rfl (lv_at hl 3 rfl) ?_
      refine lv_iload_n hx hb dX3_raise_41 rfl (lv_at hl 4 rfl) ?_
      refine lv_iload hx hb dX3_raise_42 (lv_at hl 5 rfl) ?_
      refine vp_callSi (va_runS (As := [.int (nI a), .int (nI b), .int (nI ee)]) (rest := []) ⟨hx, hb, hml, hown, hts⟩ (conX3_lastGrain l D T a b ee (by omega) (by omega) (by omega)) (va_cwS 3 hts gX3_raise_X3_lastGrain rfl rfl rfl (by decide +kernel) ⟨Nat.le_of_ble_eq_true rfl, Nat.le_of_ble_eq_true rfl⟩) (preS hK trivial) rfl rfl hl.1 rfl (lv_room (Nat.le_of_ble_eq_true rfl)) dX3_raise_44 ⟨Nat.le_of_ble_eq_true rfl, Nat.le_of_ble_eq_true rfl⟩).run (fun r2 hr2 => ?_)
      refine lv_istore (lv' := [(7, .int r2), (6, .ref (ad (22 + k))), (0, .ref (ad 0)), (1, .int (nI k)), (2, .int (nI a)), (3, .int (nI b)), (4, .int (nI ee)), (5, .int x)]) hx hb dX3_raise_47 hl (by decide) rfl (fun ls hl => ?_)
      refine lv_iload_n hx hb dX3_raise_49 rfl (lv_at hl 4 rfl) ?_
      refine lv_iload_n hx hb dX3_raise_50 rfl (lv_at hl 5 rfl) ?_
      refine lv_iload hx hb dX3_raise_51 (lv_at hl 6 rfl) ?_
      refine vp_callSi (va_runS (As := [.int (nI a), .int (nI b), .int (nI ee)]) (rest := []) ⟨hx, hb, hml, hown, hts⟩ (conX3_firstGrain l D T a b ee (by omega) (by omega) (by omega)) (va_cwS 3 hts gX3_raise_X3_firstGrain rfl rfl rfl (by decide +kernel) ⟨Nat.le_of_ble_eq_true rfl, Nat.le_of_ble_eq_true rfl⟩) (preS hK trivial) rfl rfl hl.1 rfl (lv_room (Nat.le_of_ble_eq_true rfl)) dX3_raise_53 ⟨Nat.le_of_ble_eq_true rfl, Nat.le_of_ble_eq_true rfl⟩).run (fun r3 hr3 => ?_)
      rw [hr3]
      refine lv_istore (lv' := [(8, .int (nI (fgN a b ee))), (7, .int r2), (6, .ref (ad (22 + k))), (0, .ref (ad 0)), (1, .int (nI k)), (2, .int (nI a)), (3, .int (nI b)), (4, .int (nI ee)), (5, .int x)]) hx hb dX3_raise_56 hl (by decide) rfl (fun ls hl => ?_)
      refine q_for (fun (i : Nat) (H : Heap) (locs : List Loc) (ls : Array Slot) => va_S A s.heap H locs ∧ lv_has ls 9 [(8, .int (nI (fgN a b ee + i))), (7, .int r2), (6, .ref (ad (22 + k))), (0, .ref (ad 0)), (1, .int (nI k)), (2, .int (nI a)), (3, .int (nI b)), (4, .int (nI ee)), (5, .int x)] ∧ PLW D T ad F (va_up V k (raiV (V k) x (fgN a b ee) i)) sr C H) (N := (lgN a b ee - fgN a b ee)) 0 (by omega) ?_ ?_ ?_
      · skip
        have e4 : nI (fgN a b ee) = nI (fgN a b ee + 0) := by rfl
        have e5 : V = va_up V k (raiV (V k) x (fgN a b ee) 0) := by (rw [show raiV (V k) x (fgN a b ee) 0 = V k from rfl, va_up_id])
        exact ⟨hS, lv_sub (lv_ex hl 0 rfl (congrArg Value.int e4)) [0, 1, 2, 3, 4, 5, 6, 7, 8] rfl, ((e5 ▸ hw) : PLW D T ad F (va_up V k (raiV (V k) x (fgN a b ee) 0)) sr C _)⟩
      · skip
        intro i H locs ls hi9 hin9 hnext
        obtain ⟨hS, hl, hw⟩ := hin9
        refine lv_iload hx hb dX3_raise_58 (lv_at hl 0 rfl) ?_
        refine lv_iload hx hb dX3_raise_60 (lv_at hl 1 rfl) ?_
        refine lv_icmp_gt (tgt := 88) hx hb dX3_raise_62 (by decide) (fun c62 => ?_) (fun c62 => ?_)
        · skip
          have c62 : lgN a b ee ≤ fgN a b ee + i := (lt_pred hr2 (by omega)).mp c62
          omega
        · skip
          have c62 : ¬ (lgN a b ee ≤ fgN a b ee + i) := fun q9 => c62 ((lt_pred hr2 (by omega)).mpr q9)
          refine lv_aload hx hb dX3_raise_65 (lv_at hl 2 rfl) ?_
          refine lv_iload hx hb dX3_raise_67 (lv_at hl 0 rfl) ?_
          refine lv_aload hx hb dX3_raise_69 (lv_at hl 2 rfl) ?_
          refine lv_iload hx hb dX3_raise_71 (lv_at hl 0 rfl) ?_
          refine vp_callSi (va_runV (As := [.int (nI (fgN a b ee + i))]) (rest := [.int (nI (fgN a b ee + i)), .ref (ad (22 + k))]) ⟨hx, hb, hml, hown, hts⟩ (conX2_at l D T (ad (22 + k)) (ad (28 + k)) (raiV (V k) x (fgN a b ee) i) (nI (fgN a b ee + i))) (cwV 1 hts gX3_raise_X2_at rfl rfl rfl (by decide +kernel) ⟨Nat.le_of_ble_eq_true rfl, Nat.le_of_ble_eq_true rfl⟩) (preV hK (hw.f k (by omega)) rfl ⟨(hw.sfU k (by omega)).1, (hw.sfU k (by omega)).2.1, (hw.sfU k (by omega)).2.2⟩) rfl rfl hl.1 rfl (lv_room (Nat.le_of_ble_eq_true rfl)) dX3_raise_73 ⟨Nat.le_of_ble_eq_true rfl, Nat.le_of_ble_eq_true rfl⟩).run (fun r6 hr6 => ?_)
          rw [hr6]
          refine lv_iload hx hb dX3_raise_76 (lv_at hl 8 rfl) ?_
          refine lv_iadd hx hb dX3_raise_78 ?_
          refine va_callv (va_runV (As := [.int (nI (fgN a b ee + i)), .int ((atV (raiV (V k) x (fgN a b ee) i) (nI (fgN a b ee + i))) + x)]) (rest := []) ⟨hx, hb, hml, hown, hts⟩ (conX2_write l D T (ad (22 + k)) (ad (28 + k)) (raiV (V k) x (fgN a b ee) i) (nI (fgN a b ee + i)) ((atV (raiV (V k) x (fgN a b ee) i) (nI (fgN a b ee + i))) + x)) (cwV 2 hts gX3_raise_X2_write rfl rfl rfl (by decide +kernel) ⟨Nat.le_of_ble_eq_true rfl, Nat.le_of_ble_eq_true rfl⟩) (preV hK (hw.f k (by omega)) rfl ⟨(hw.sfU k (by omega)).1, (hw.sfU k (by omega)).2.1, (hw.sfU k (by omega)).2.2⟩) rfl rfl hl.1 rfl (lv_room (Nat.le_of_ble_eq_true rfl)) dX3_raise_79 ⟨Nat.le_of_ble_eq_true rfl, Nat.le_of_ble_eq_true rfl⟩) hS (fun q _ h9 => (by have h8 : q = ad (28 + k) := h9; rw [h8]; exact hA (28 + k) (by omega))) (fun q h9 => (by have h8 : q = ad (28 + k) := h9; rw [h8]; exact hA (28 + k) (by omega))) (fun u t H1 locs1 ht hvm hw9 hB hz1 hk1 hS => ?_)
          try dsimp only at hB
          rw [ht] at hB
          replace hw := hw.setVU k (by omega) hB (fun q h1 h2 => hk1 q h1 h2)
          refine lv_iinc (v := nI (fgN a b ee + i + 1)) (lv' := [(8, .int (nI (fgN a b ee + i + 1))), (7, .int r2), (6, .ref (ad (22 + k))), (0, .ref (ad 0)), (1, .int (nI k)), (2, .int (nI a)), (3, .int (nI b)), (4, .int (nI ee)), (5, .int x)]) hx hb dX3_raise_82 hl (k := 0) rfl (inc_1 _) (by decide) rfl (fun ls hl => ?_)
          refine lv_goto (tgt := 58) hx hb dX3_raise_85 (by decide) ?_
          have e7 : nI (fgN a b ee + i + 1) = nI (fgN a b ee + (i + 1)) := by rfl
          have e8 : va_up V k (wrV (raiV (V k) x (fgN a b ee) i) (nI (fgN a b ee + i)) ((atV (raiV (V k) x (fgN a b ee) i) (nI (fgN a b ee + i))) + x)) = va_up V k (raiV (V k) x (fgN a b ee) (i + 1)) := by (rw [raiV_s])
          exact hnext _ _ _ ⟨hS, lv_sub (lv_ex hl 0 rfl (congrArg Value.int e7)) [0, 1, 2, 3, 4, 5, 6, 7, 8] rfl, ((e8 ▸ hw) : PLW D T ad F (va_up V k (raiV (V k) x (fgN a b ee) (i + 1))) sr C _)⟩
      · skip
        intro H locs ls hin9
        obtain ⟨hS, hl, hw⟩ := hin9
        refine lv_iload hx hb dX3_raise_58 (lv_at hl 0 rfl) ?_
        refine lv_iload hx hb dX3_raise_60 (lv_at hl 1 rfl) ?_
        refine lv_icmp_gt (tgt := 88) hx hb dX3_raise_62 (by decide) (fun c62 => ?_) (fun c62 => ?_)
        · skip
          have c62 : lgN a b ee ≤ fgN a b ee + (lgN a b ee - fgN a b ee) := (lt_pred hr2 (by omega)).mp c62
          refine lv_aload hx hb dX3_raise_88 (lv_at hl 2 rfl) ?_
          refine vp_callSi (va_runV (As := []) (rest := []) ⟨hx, hb, hml, hown, hts⟩ (conX2_steps l D T (ad (22 + k)) (ad (28 + k)) (raiV (V k) x (fgN a b ee) (lgN a b ee - fgN a b ee))) (cwV 0 hts gX3_raise_X2_steps rfl rfl rfl (by decide +kernel) ⟨Nat.le_of_ble_eq_true rfl, Nat.le_of_ble_eq_true rfl⟩) (preV hK (hw.f k (by omega)) rfl ⟨(hw.sfU k (by omega)).1, (hw.sfU k (by omega)).2.1, (hw.sfU k (by omega)).2.2⟩) rfl rfl hl.1 rfl (lv_room (Nat.le_of_ble_eq_true rfl)) dX3_raise_90 ⟨Nat.le_of_ble_eq_true rfl, Nat.le_of_ble_eq_true rfl⟩).run (fun r9 hr9 => ?_)
          rw [hr9]
          exact W.iret (v := stepsV (raiV (V k) x (fgN a b ee) (lgN a b ee - fgN a b ee)) 200) hx hb hr (fun t ht _ => ⟨⟨stepsV (raiV (V k) x (fgN a b ee) (lgN a b ee - fgN a b ee)) 200, (), rfl, by rfl, by dsimp only; rw [ht]; exact hw⟩, hS.F ht⟩) hS.2.2 dX3_raise_93
        · skip
          have c62 : ¬ (lgN a b ee ≤ fgN a b ee + (lgN a b ee - fgN a b ee)) := fun q9 => c62 ((lt_pred hr2 (by omega)).mpr q9)
          omega
    · skip
      exact absurd h2 c27

set_option maxHeartbeats 4000000 in
set_option maxRecDepth 100000 in
theorem conX3_set (l : Launch) (D : va_G) (T : Nat → ClassId) (ad : Nat → Nat) (F V : Nat → Nat → Int32) (sr : SRs) (C : Nat → Int32) (k : Nat) (hk : k < 5) (j : Nat) (x : Int32) (hj : j < 8) (h1 : ¬ x < -10000) (h2 : x ≤ nI 10000) : Met l yX3_set wsX3_set ({ frames := 2, cells := 0, slots := 0, locals := 43 }) (cP D T [.ref (ad 0), .int (nI k), .int (nI j), .int x] (fun H => PLW D T ad F V sr C H)) (va_Qi (fun (r : Int32) (_ : Unit) => r = stepsV (setV (V k) (F j) x 201) 200) (fun _ t => PLW D T ad F (va_up V k (setV (V k) (F j) x 201)) sr C t.heap) (PLA ad)) 0 0 (PLA ad) := by
  refine Met.ofW (cc := cX3_set) (maxL := 7) (ret := (some .int)) (by decide) rfl ?_
  intro p e s m args below meth c s₁ B hml hv9
  obtain ⟨rfl, hK, hw⟩ := hv9
  have hx := B.exec
  have hb := B.bytes
  have hr := B.returns
  have hts := atoms_spec (ws := wsX3_set) B.pre
  have hown : s.vm.findClass RX3 = some m.cls := findClass_of_methodNamed B.named
  have hlocks := B.notSynchronized
  generalize hAe : (PLA ad) = A
  have hA : ∀ i : Nat, i < 37 → A (ad i) := fun i hi => by subst hAe; exact ⟨i, hi, rfl⟩
  have hS : va_S A s.heap s.heap [] := va_S.rf
  have hl := lv_entry ([.ref (ad 0), .int (nI k), .int (nI j), .int x]) (n := 7) (Nat.le_of_ble_eq_true rfl)
  rw [lg_entry_eq]
  generalize (lg_sl ([.ref (ad 0), .int (nI k), .int (nI j), .int x]) ++ List.replicate (7 - (lg_sl ([.ref (ad 0), .int (nI k), .int (nI j), .int x])).length) Slot.unset).toArray = ls at hl ⊢
  have hl : lv_has ls 7 [(0, .ref (ad 0)), (1, .int (nI k)), (2, .int (nI j)), (3, .int x)] := hl
  refine lv_aload_n hx hb dX3_set_0 rfl (lv_at hl 0 rfl) ?_
  refine lv_iload_n hx hb dX3_set_1 rfl (lv_at hl 1 rfl) ?_
  refine va_csr (ad := fun k => .ref k) (va_runV (As := [.int (nI k)]) (rest := []) ⟨hx, hb, hml, hown, hts⟩ (conX3_functionAt l D T ad F V sr C k (by omega)) (cwV 1 hts gX3_set_X3_functionAt rfl rfl rfl (by decide +kernel) ⟨Nat.le_of_ble_eq_true rfl, Nat.le_of_ble_eq_true rfl⟩) (preV hK hw.o rfl hw) rfl rfl hl.1 rfl (lv_room (Nat.le_of_ble_eq_true rfl)) dX3_set_2 ⟨Nat.le_of_ble_eq_true rfl, Nat.le_of_ble_eq_true rfl⟩).run (fun r1 hr1 => ?_)
  subst hr1
  refine lv_astore (lv' := [(4, .ref (ad (22 + k))), (0, .ref (ad 0)), (1, .int (nI k)), (2, .int (nI j)), (3, .int x)]) hx hb dX3_set_5 hl (by decide) rfl (fun ls hl => ?_)
  refine lv_aload_n hx hb dX3_set_7 rfl (lv_at hl 1 rfl) ?_
  refine lv_iload_n hx hb dX3_set_8 rfl (lv_at hl 3 rfl) ?_
  refine va_csr (ad := fun k => .ref k) (va_runV (As := [.int (nI j)]) (rest := []) ⟨hx, hb, hml, hown, hts⟩ (conX3_setAt l D T ad F V sr C j (by omega)) (cwV 1 hts gX3_set_X3_setAt rfl rfl rfl (by decide +kernel) ⟨Nat.le_of_ble_eq_true rfl, Nat.le_of_ble_eq_true rfl⟩) (preV hK hw.o rfl hw) rfl rfl hl.1 rfl (lv_room (Nat.le_of_ble_eq_true rfl)) dX3_set_9 ⟨Nat.le_of_ble_eq_true rfl, Nat.le_of_ble_eq_true rfl⟩).run (fun r2 hr2 => ?_)
  subst hr2
  refine lv_astore (lv' := [(5, .ref (ad (4 + j))), (4, .ref (ad (22 + k))), (0, .ref (ad 0)), (1, .int (nI k)), (2, .int (nI j)), (3, .int x)]) hx hb dX3_set_12 hl (by decide) rfl (fun ls hl => ?_)
  refine lv_iload_n hx hb dX3_set_14 rfl (lv_at hl 5 rfl) ?_
  refine lv_sipush (v := (-10000)) hx hb dX3_set_15 (by decide) ?_
  refine lv_icmp_lt (tgt := 28) hx hb dX3_set_18 (by decide) (fun c18 => ?_) (fun c18 => ?_)
  · skip
    exact absurd c18 (h1)
  · skip
    refine lv_iload_n hx hb dX3_set_21 rfl (lv_at hl 5 rfl) ?_
    refine lv_sipush (v := nI 10000) hx hb dX3_set_22 (by decide) ?_
    refine lv_icmp_le (tgt := 38) hx hb dX3_set_25 (by decide) (fun c25 => ?_) (fun c25 => ?_)
    · skip
      refine lv_iconst (v := nI 0) hx hb dX3_set_38 (by decide) ?_
      refine lv_istore (lv' := [(6, .int (nI 0)), (5, .ref (ad (4 + j))), (4, .ref (ad (22 + k))), (0, .ref (ad 0)), (1, .int (nI k)), (2, .int (nI j)), (3, .int x)]) hx hb dX3_set_39 hl (by decide) rfl (fun ls hl => ?_)
      refine q_for (fun (i : Nat) (H : Heap) (locs : List Loc) (ls : Array Slot) => va_S A s.heap H locs ∧ lv_has ls 7 [(6, .int (nI i)), (5, .ref (ad (4 + j))), (4, .ref (ad (22 + k))), (0, .ref (ad 0)), (1, .int (nI k)), (2, .int (nI j)), (3, .int x)] ∧ PLW D T ad F (va_up V k (setV (V k) (F j) x i)) sr C H) (N := 201) 0 (by omega) ?_ ?_ ?_
      · skip
        have e3 : V = va_up V k (setV (V k) (F j) x 0) := by (rw [show setV (V k) (F j) x 0 = V k from rfl, va_up_id])
        exact ⟨hS, lv_sub hl [0, 1, 2, 3, 4, 5, 6] rfl, ((e3 ▸ hw) : PLW D T ad F (va_up V k (setV (V k) (F j) x 0)) sr C _)⟩
      · skip
        intro i H locs ls hi9 hin9 hnext
        obtain ⟨hS, hl, hw⟩ := hin9
        refine lv_iload hx hb dX3_set_41 (lv_at hl 0 rfl) ?_
        refine lv_sipush (v := nI 201) hx hb dX3_set_43 (by decide) ?_
        refine lv_icmp_ge (tgt := 73) hx hb dX3_set_46 (by decide) (fun c46 => ?_) (fun c46 => ?_)
        · skip
          have c46 : 201 ≤ i := (nc_le (a := 201) (b := i) (by omega) (by omega)).mp c46
          omega
        · skip
          have c46 : ¬ (201 ≤ i) := fun q9 => c46 ((nc_le (a := 201) (b := i) (by omega) (by omega)).mpr q9)
          refine lv_aload hx hb dX3_set_49 (lv_at hl 1 rfl) ?_
          refine lv_iload hx hb dX3_set_51 (lv_at hl 0 rfl) ?_
          refine vp_callSi (va_runV (As := [.int (nI i)]) (rest := []) ⟨hx, hb, hml, hown, hts⟩ (conX0_holds l D T (ad (4 + j)) (ad (13 + j)) (F j) (nI i)) (cwV 1 hts gX3_set_X0_holds rfl rfl rfl (by decide +kernel) ⟨Nat.le_of_ble_eq_true rfl, Nat.le_of_ble_eq_true rfl⟩) (preV hK (hw.g j (by omega)) rfl ⟨(hw.gs j (by omega)).1, (hw.gs j (by omega)).2.1, (hw.gs j (by omega)).2.2⟩) rfl rfl hl.1 rfl (lv_room (Nat.le_of_ble_eq_true rfl)) dX3_set_53 ⟨Nat.le_of_ble_eq_true rfl, Nat.le_of_ble_eq_true rfl⟩).run (fun r4 hr4 => ?_)
          rw [hr4]
          refine lv_if_eq (tgt := 67) hx hb dX3_set_56 (by decide) (fun c56 => ?_) (fun c56 => ?_)
          · skip
            refine lv_iinc (v := nI (i + 1)) (lv' := [(6, .int (nI (i + 1))), (5, .ref (ad (4 + j))), (4, .ref (ad (22 + k))), (0, .ref (ad 0)), (1, .int (nI k)), (2, .int (nI j)), (3, .int x)]) hx hb dX3_set_67 hl (k := 0) rfl (inc_1 _) (by decide) rfl (fun ls hl => ?_)
            refine lv_goto (tgt := 41) hx hb dX3_set_70 (by decide) ?_
            have e5 : va_up V k (setV (V k) (F j) x i) = va_up V k (setV (V k) (F j) x (i + 1)) := by first | (rw [setV_s, if_pos c56]; done) | (rw [setV_s, if_neg c56]; done)
            exact hnext _ _ _ ⟨hS, lv_sub hl [0, 1, 2, 3, 4, 5, 6] rfl, ((e5 ▸ hw) : PLW D T ad F (va_up V k (setV (V k) (F j) x (i + 1))) sr C _)⟩
          · skip
            refine lv_aload hx hb dX3_set_59 (lv_at hl 2 rfl) ?_
            refine lv_iload hx hb dX3_set_61 (lv_at hl 0 rfl) ?_
            refine lv_iload_n hx hb dX3_set_63 rfl (lv_at hl 6 rfl) ?_
            refine va_callv (va_runV (As := [.int (nI i), .int x]) (rest := []) ⟨hx, hb, hml, hown, hts⟩ (conX2_write l D T (ad (22 + k)) (ad (28 + k)) (setV (V k) (F j) x i) (nI i) x) (cwV 2 hts gX3_set_X2_write rfl rfl rfl (by decide +kernel) ⟨Nat.le_of_ble_eq_true rfl, Nat.le_of_ble_eq_true rfl⟩) (preV hK (hw.f k (by omega)) rfl ⟨(hw.sfU k (by omega)).1, (hw.sfU k (by omega)).2.1, (hw.sfU k (by omega)).2.2⟩) rfl rfl hl.1 rfl (lv_room (Nat.le_of_ble_eq_true rfl)) dX3_set_64 ⟨Nat.le_of_ble_eq_true rfl, Nat.le_of_ble_eq_true rfl⟩) hS (fun q _ h9 => (by have h8 : q = ad (28 + k) := h9; rw [h8]; exact hA (28 + k) (by omega))) (fun q h9 => (by have h8 : q = ad (28 + k) := h9; rw [h8]; exact hA (28 + k) (by omega))) (fun u t H1 locs1 ht hvm hw9 hB hz1 hk1 hS => ?_)
            try dsimp only at hB
            rw [ht] at hB
            replace hw := hw.setVU k (by omega) hB (fun q h1 h2 => hk1 q h1 h2)
            refine lv_iinc (v := nI (i + 1)) (lv' := [(6, .int (nI (i + 1))), (5, .ref (ad (4 + j))), (4, .ref (ad (22 + k))), (0, .ref (ad 0)), (1, .int (nI k)), (2, .int (nI j)), (3, .int x)]) hx hb dX3_set_67 hl (k := 0) rfl (inc_1 _) (by decide) rfl (fun ls hl => ?_)
            refine lv_goto (tgt := 41) hx hb dX3_set_70 (by decide) ?_
            have e6 : va_up V k (wrV (setV (V k) (F j) x i) (nI i) x) = va_up V k (setV (V k) (F j) x (i + 1)) := by first | (rw [setV_s, if_pos c56]; done) | (rw [setV_s, if_neg c56]; done)
            exact hnext _ _ _ ⟨hS, lv_sub hl [0, 1, 2, 3, 4, 5, 6] rfl, ((e6 ▸ hw) : PLW D T ad F (va_up V k (setV (V k) (F j) x (i + 1))) sr C _)⟩
      · skip
        intro H locs ls hin9
        obtain ⟨hS, hl, hw⟩ := hin9
        refine lv_iload hx hb dX3_set_41 (lv_at hl 0 rfl) ?_
        refine lv_sipush (v := nI 201) hx hb dX3_set_43 (by decide) ?_
        refine lv_icmp_ge (tgt := 73) hx hb dX3_set_46 (by decide) (fun c46 => ?_) (fun c46 => ?_)
        · skip
          have c46 : 201 ≤ 201 := (nc_le (a := 201) (b := 201) (by omega) (by omega)).mp c46
          refine lv_aload hx hb dX3_set_73 (lv_at hl 2 rfl) ?_
          refine vp_callSi (va_runV (As := []) (rest := []) ⟨hx, hb, hml, hown, hts⟩ (conX2_steps l D T (ad (22 + k)) (ad (28 + k)) (setV (V k) (F j) x 201)) (cwV 0 hts gX3_set_X2_steps rfl rfl rfl (by decide +kernel) ⟨Nat.le_of_ble_eq_true rfl, Nat.le_of_ble_eq_true rfl⟩) (preV hK (hw.f k (by omega)) rfl ⟨(hw.sfU k (by omega)).1, (hw.sfU k (by omega)).2.1, (hw.sfU k (by omega)).2.2⟩) rfl rfl hl.1 rfl (lv_room (Nat.le_of_ble_eq_true rfl)) dX3_set_75 ⟨Nat.le_of_ble_eq_true rfl, Nat.le_of_ble_eq_true rfl⟩).run (fun r7 hr7 => ?_)
          rw [hr7]
          exact W.iret (v := stepsV (setV (V k) (F j) x 201) 200) hx hb hr (fun t ht _ => ⟨⟨stepsV (setV (V k) (F j) x 201) 200, (), rfl, by rfl, by dsimp only; rw [ht]; exact hw⟩, hS.F ht⟩) hS.2.2 dX3_set_78
        · skip
          have c46 : ¬ (201 ≤ 201) := fun q9 => c46 ((nc_le (a := 201) (b := 201) (by omega) (by omega)).mpr q9)
          omega
    · skip
      exact absurd h2 c25

set_option maxHeartbeats 4000000 in
set_option maxRecDepth 100000 in
theorem conX3_mix (l : Launch) (D : va_G) (T : Nat → ClassId) (ad : Nat → Nat) (F V : Nat → Nat → Int32) (sr : SRs) (C : Nat → Int32) (to one other k : Nat) (ht9 : to < 5) (h1 : one < 5) (h2 : other < 5) (hk : k ≤ 4) : Met l yX3_mix wsX3_mix ({ frames := 2, cells := 0, slots := 0, locals := 43 }) (cP D T [.ref (ad 0), .int (nI to), .int (nI one), .int (nI other), .int (nI k)] (fun H => PLW D T ad F V sr C H)) (va_Qi (fun (r : Int32) (_ : Unit) => r = stepsV (mxV V to one other k 201) 200) (fun _ t => PLW D T ad F (va_up V to (mxV V to one other k 201)) sr C t.heap) (PLA ad)) 0 0 (PLA ad) := by
  refine Met.ofW (cc := cX3_mix) (maxL := 9) (ret := (some .int)) (by decide) rfl ?_
  intro p e s m args below meth c s₁ B hml hv9
  obtain ⟨rfl, hK, hw⟩ := hv9
  have hx := B.exec
  have hb := B.bytes
  have hr := B.returns
  have hts := atoms_spec (ws := wsX3_mix) B.pre
  have hown : s.vm.findClass RX3 = some m.cls := findClass_of_methodNamed B.named
  have hlocks := B.notSynchronized
  generalize hAe : (PLA ad) = A
  have hA : ∀ i : Nat, i < 37 → A (ad i) := fun i hi => by subst hAe; exact ⟨i, hi, rfl⟩
  have hS : va_S A s.heap s.heap [] := va_S.rf
  have hl := lv_entry ([.ref (ad 0), .int (nI to), .int (nI one), .int (nI other), .int (nI k)]) (n := 9) (Nat.le_of_ble_eq_true rfl)
  rw [lg_entry_eq]
  generalize (lg_sl ([.ref (ad 0), .int (nI to), .int (nI one), .int (nI other), .int (nI k)]) ++ List.replicate (9 - (lg_sl ([.ref (ad 0), .int (nI to), .int (nI one), .int (nI other), .int (nI k)])).length) Slot.unset).toArray = ls at hl ⊢
  have hl : lv_has ls 9 [(0, .ref (ad 0)), (1, .int (nI to)), (2, .int (nI one)), (3, .int (nI other)), (4, .int (nI k))] := hl
  refine lv_aload_n hx hb dX3_mix_0 rfl (lv_at hl 0 rfl) ?_
  refine lv_iload_n hx hb dX3_mix_1 rfl (lv_at hl 1 rfl) ?_
  refine va_csr (ad := fun k => .ref k) (va_runV (As := [.int (nI to)]) (rest := []) ⟨hx, hb, hml, hown, hts⟩ (conX3_functionAt l D T ad F V sr C to (by omega)) (cwV 1 hts gX3_mix_X3_functionAt rfl rfl rfl (by decide +kernel) ⟨Nat.le_of_ble_eq_true rfl, Nat.le_of_ble_eq_true rfl⟩) (preV hK hw.o rfl hw) rfl rfl hl.1 rfl (lv_room (Nat.le_of_ble_eq_true rfl)) dX3_mix_2 ⟨Nat.le_of_ble_eq_true rfl, Nat.le_of_ble_eq_true rfl⟩).run (fun r1 hr1 => ?_)
  subst hr1
  refine lv_astore (lv' := [(5, .ref (ad (22 + to))), (0, .ref (ad 0)), (1, .int (nI to)), (2, .int (nI one)), (3, .int (nI other)), (4, .int (nI k))]) hx hb dX3_mix_5 hl (by decide) rfl (fun ls hl => ?_)
  refine lv_aload_n hx hb dX3_mix_7 rfl (lv_at hl 1 rfl) ?_
  refine lv_iload_n hx hb dX3_mix_8 rfl (lv_at hl 3 rfl) ?_
  refine va_csr (ad := fun k => .ref k) (va_runV (As := [.int (nI one)]) (rest := []) ⟨hx, hb, hml, hown, hts⟩ (conX3_functionAt l D T ad F V sr C one (by omega)) (cwV 1 hts gX3_mix_X3_functionAt rfl rfl rfl (by decide +kernel) ⟨Nat.le_of_ble_eq_true rfl, Nat.le_of_ble_eq_true rfl⟩) (preV hK hw.o rfl hw) rfl rfl hl.1 rfl (lv_room (Nat.le_of_ble_eq_true rfl)) dX3_mix_9 ⟨Nat.le_of_ble_eq_true rfl, Nat.le_of_ble_eq_true rfl⟩).run (fun r2 hr2 => ?_)
  subst hr2
  refine lv_astore (lv' := [(6, .ref (ad (22 + one))), (5, .ref (ad (22 + to))), (0, .ref (ad 0)), (1, .int (nI to)), (2, .int (nI one)), (3, .int (nI other)), (4, .int (nI k))]) hx hb dX3_mix_12 hl (by decide) rfl (fun ls hl => ?_)
  refine lv_aload_n hx hb dX3_mix_14 rfl (lv_at hl 2 rfl) ?_
  refine lv_iload_n hx hb dX3_mix_15 rfl (lv_at hl 5 rfl) ?_
  refine va_csr (ad := fun k => .ref k) (va_runV (As := [.int (nI other)]) (rest := []) ⟨hx, hb, hml, hown, hts⟩ (conX3_functionAt l D T ad F V sr C other (by omega)) (cwV 1 hts gX3_mix_X3_functionAt rfl rfl rfl (by decide +kernel) ⟨Nat.le_of_ble_eq_true rfl, Nat.le_of_ble_eq_true rfl⟩) (preV hK hw.o rfl hw) rfl rfl hl.1 rfl (lv_room (Nat.le_of_ble_eq_true rfl)) dX3_mix_16 ⟨Nat.le_of_ble_eq_true rfl, Nat.le_of_ble_eq_true rfl⟩).run (fun r3 hr3 => ?_)
  subst hr3
  refine lv_astore (lv' := [(7, .ref (ad (22 + other))), (6, .ref (ad (22 + one))), (5, .ref (ad (22 + to))), (0, .ref (ad 0)), (1, .int (nI to)), (2, .int (nI one)), (3, .int (nI other)), (4, .int (nI k))]) hx hb dX3_mix_19 hl (by decide) rfl (fun ls hl => ?_)
  refine lv_iload hx hb dX3_mix_21 (lv_at hl 7 rfl) ?_
  refine lv_iconst (v := nI 4) hx hb dX3_mix_23 (by decide) ?_
  refine va_csv (va_runS (As := [.int (nI k), .int (nI 4)]) (rest := []) ⟨hx, hb, hml, hown, hts⟩ (conX3_checkChoice l D T k 4 (by omega) (by omega)) (va_cwS 2 hts gX3_mix_X3_checkChoice rfl rfl rfl (by decide +kernel) ⟨Nat.le_of_ble_eq_true rfl, Nat.le_of_ble_eq_true rfl⟩) (preS hK trivial) rfl rfl hl.1 rfl (lv_room (Nat.le_of_ble_eq_true rfl)) dX3_mix_24 ⟨Nat.le_of_ble_eq_true rfl, Nat.le_of_ble_eq_true rfl⟩).run (fun _ => ?_)
  refine lv_iconst (v := nI 0) hx hb dX3_mix_27 (by decide) ?_
  refine lv_istore (lv' := [(8, .int (nI 0)), (7, .ref (ad (22 + other))), (6, .ref (ad (22 + one))), (5, .ref (ad (22 + to))), (0, .ref (ad 0)), (1, .int (nI to)), (2, .int (nI one)), (3, .int (nI other)), (4, .int (nI k))]) hx hb dX3_mix_28 hl (by decide) rfl (fun ls hl => ?_)
  refine q_for (fun (i : Nat) (H : Heap) (locs : List Loc) (ls : Array Slot) => va_S A s.heap H locs ∧ lv_has ls 9 [(8, .int (nI i)), (7, .ref (ad (22 + other))), (6, .ref (ad (22 + one))), (5, .ref (ad (22 + to))), (0, .ref (ad 0)), (1, .int (nI to)), (2, .int (nI one)), (3, .int (nI other)), (4, .int (nI k))] ∧ PLW D T ad F (va_up V to (mxV V to one other k i)) sr C H) (N := 201) 0 (by omega) ?_ ?_ ?_
  · skip
    have e4 : V = va_up V to (mxV V to one other k 0) := by (rw [mxV_0, va_up_id])
    exact ⟨hS, lv_sub hl [0, 1, 2, 3, 4, 5, 6, 7, 8] rfl, ((e4 ▸ hw) : PLW D T ad F (va_up V to (mxV V to one other k 0)) sr C _)⟩
  · skip
    intro i H locs ls hi9 hin9 hnext
    obtain ⟨hS, hl, hw⟩ := hin9
    refine lv_iload hx hb dX3_mix_30 (lv_at hl 0 rfl) ?_
    refine lv_sipush (v := nI 201) hx hb dX3_mix_32 (by decide) ?_
    refine lv_icmp_ge (tgt := 70) hx hb dX3_mix_35 (by decide) (fun c35 => ?_) (fun c35 => ?_)
    · skip
      have c35 : 201 ≤ i := (nc_le (a := 201) (b := i) (by omega) (by omega)).mp c35
      omega
    · skip
      have c35 : ¬ (201 ≤ i) := fun q9 => c35 ((nc_le (a := 201) (b := i) (by omega) (by omega)).mpr q9)
      refine lv_aload hx hb dX3_mix_38 (lv_at hl 3 rfl) ?_
      refine lv_iload hx hb dX3_mix_40 (lv_at hl 0 rfl) ?_
      refine lv_aload hx hb dX3_mix_42 (lv_at hl 2 rfl) ?_
      refine lv_iload hx hb dX3_mix_44 (lv_at hl 0 rfl) ?_
      refine vp_callSi (va_runV (As := [.int (nI i)]) (rest := [.int (nI i), .ref (ad (22 + to))]) ⟨hx, hb, hml, hown, hts⟩ (conX2_at l D T (ad (22 + one)) (ad (28 + one)) ((va_up V to (mxV V to one other k i)) one) (nI i)) (cwV 1 hts gX3_mix_X2_at rfl rfl rfl (by decide +kernel) ⟨Nat.le_of_ble_eq_true rfl, Nat.le_of_ble_eq_true rfl⟩) (preV hK (hw.f one (by omega)) rfl ⟨(hw.sf one (by omega)).1, (hw.sf one (by omega)).2.1, (hw.sf one (by omega)).2.2⟩) rfl rfl hl.1 rfl (lv_room (Nat.le_of_ble_eq_true rfl)) dX3_mix_46 ⟨Nat.le_of_ble_eq_true rfl, Nat.le_of_ble_eq_true rfl⟩).run (fun r5 hr5 => ?_)
      rw [hr5]
      refine lv_aload hx hb dX3_mix_49 (lv_at hl 1 rfl) ?_
      refine lv_iload hx hb dX3_mix_51 (lv_at hl 0 rfl) ?_
      refine vp_callSi (va_runV (As := [.int (nI i)]) (rest := [.int (atV ((va_up V to (mxV V to one other k i)) one) (nI i)), .int (nI i), .ref (ad (22 + to))]) ⟨hx, hb, hml, hown, hts⟩ (conX2_at l D T (ad (22 + other)) (ad (28 + other)) ((va_up V to (mxV V to one other k i)) other) (nI i)) (cwV 1 hts gX3_mix_X2_at rfl rfl rfl (by decide +kernel) ⟨Nat.le_of_ble_eq_true rfl, Nat.le_of_ble_eq_true rfl⟩) (preV hK (hw.f other (by omega)) rfl ⟨(hw.sf other (by omega)).1, (hw.sf other (by omega)).2.1, (hw.sf other (by omega)).2.2⟩) rfl rfl hl.1 rfl (lv_room (Nat.le_of_ble_eq_true rfl)) dX3_mix_53 ⟨Nat.le_of_ble_eq_true rfl, Nat.le_of_ble_eq_true rfl⟩).run (fun r6 hr6 => ?_)
      rw [hr6]
      refine lv_iload hx hb dX3_mix_56 (lv_at hl 8 rfl) ?_
      refine vp_callSi (va_runS (As := [.int (atV ((va_up V to (mxV V to one other k i)) one) (nI i)), .int (atV ((va_up V to (mxV V to one other k i)) other) (nI i)), .int (nI k)]) (rest := [.int (nI i), .ref (ad (22 + to))]) ⟨hx, hb, hml, hown, hts⟩ (conX3_mixed l D T (atV ((va_up V to (mxV V to one other k i)) one) (nI i)) (atV ((va_up V to (mxV V to one other k i)) other) (nI i)) k (by omega)) (va_cwS 3 hts gX3_mix_X3_mixed rfl rfl rfl (by decide +kernel) ⟨Nat.le_of_ble_eq_true rfl, Nat.le_of_ble_eq_true rfl⟩) (preS hK trivial) rfl rfl hl.1 rfl (lv_room (Nat.le_of_ble_eq_true rfl)) dX3_mix_58 ⟨Nat.le_of_ble_eq_true rfl, Nat.le_of_ble_eq_true rfl⟩).run (fun r7 hr7 => ?_)
      rw [hr7]
      refine va_callv (va_runV (As := [.int (nI i), .int (mixV (atV ((va_up V to (mxV V to one other k i)) one) (nI i)) (atV ((va_up V to (mxV V to one other k i)) other) (nI i)) k)]) (rest := []) ⟨hx, hb, hml, hown, hts⟩ (conX2_write l D T (ad (22 + to)) (ad (28 + to)) (mxV V to one other k i) (nI i) (mixV (atV ((va_up V to (mxV V to one other k i)) one) (nI i)) (atV ((va_up V to (mxV V to one other k i)) other) (nI i)) k)) (cwV 2 hts gX3_mix_X2_write rfl rfl rfl (by decide +kernel) ⟨Nat.le_of_ble_eq_true rfl, Nat.le_of_ble_eq_true rfl⟩) (preV hK (hw.f to (by omega)) rfl ⟨(hw.sfU to (by omega)).1, (hw.sfU to (by omega)).2.1, (hw.sfU to (by omega)).2.2⟩) rfl rfl hl.1 rfl (lv_room (Nat.le_of_ble_eq_true rfl)) dX3_mix_61 ⟨Nat.le_of_ble_eq_true rfl, Nat.le_of_ble_eq_true rfl⟩) hS (fun q _ h9 => (by have h8 : q = ad (28 + to) := h9; rw [h8]; exact hA (28 + to) (by omega))) (fun q h9 => (by have h8 : q = ad (28 + to) := h9; rw [h8]; exact hA (28 + to) (by omega))) (fun u t H1 locs1 ht hvm hw9 hB hz1 hk1 hS => ?_)
      try dsimp only at hB
      rw [ht] at hB
      replace hw := hw.setVU to (by omega) hB (fun q h1 h2 => hk1 q h1 h2)
      refine lv_iinc (v := nI (i + 1)) (lv' := [(8, .int (nI (i + 1))), (7, .ref (ad (22 + other))), (6, .ref (ad (22 + one))), (5, .ref (ad (22 + to))), (0, .ref (ad 0)), (1, .int (nI to)), (2, .int (nI one)), (3, .int (nI other)), (4, .int (nI k))]) hx hb dX3_mix_64 hl (k := 0) rfl (inc_1 _) (by decide) rfl (fun ls hl => ?_)
      refine lv_goto (tgt := 30) hx hb dX3_mix_67 (by decide) ?_
      have e8 : va_up V to (wrV (mxV V to one other k i) (nI i) (mixV (atV ((va_up V to (mxV V to one other k i)) one) (nI i)) (atV ((va_up V to (mxV V to one other k i)) other) (nI i)) k)) = va_up V to (mxV V to one other k (i + 1)) := by (rw [mxV_s])
      exact hnext _ _ _ ⟨hS, lv_sub hl [0, 1, 2, 3, 4, 5, 6, 7, 8] rfl, ((e8 ▸ hw) : PLW D T ad F (va_up V to (mxV V to one other k (i + 1))) sr C _)⟩
  · skip
    intro H locs ls hin9
    obtain ⟨hS, hl, hw⟩ := hin9
    refine lv_iload hx hb dX3_mix_30 (lv_at hl 0 rfl) ?_
    refine lv_sipush (v := nI 201) hx hb dX3_mix_32 (by decide) ?_
    refine lv_icmp_ge (tgt := 70) hx hb dX3_mix_35 (by decide) (fun c35 => ?_) (fun c35 => ?_)
    · skip
      have c35 : 201 ≤ 201 := (nc_le (a := 201) (b := 201) (by omega) (by omega)).mp c35
      refine lv_aload hx hb dX3_mix_70 (lv_at hl 3 rfl) ?_
      refine vp_callSi (va_runV (As := []) (rest := []) ⟨hx, hb, hml, hown, hts⟩ (conX2_steps l D T (ad (22 + to)) (ad (28 + to)) (mxV V to one other k 201)) (cwV 0 hts gX3_mix_X2_steps rfl rfl rfl (by decide +kernel) ⟨Nat.le_of_ble_eq_true rfl, Nat.le_of_ble_eq_true rfl⟩) (preV hK (hw.f to (by omega)) rfl ⟨(hw.sfU to (by omega)).1, (hw.sfU to (by omega)).2.1, (hw.sfU to (by omega)).2.2⟩) rfl rfl hl.1 rfl (lv_room (Nat.le_of_ble_eq_true rfl)) dX3_mix_72 ⟨Nat.le_of_ble_eq_true rfl, Nat.le_of_ble_eq_true rfl⟩).run (fun r9 hr9 => ?_)
      rw [hr9]
      exact W.iret (v := stepsV (mxV V to one other k 201) 200) hx hb hr (fun t ht _ => ⟨⟨stepsV (mxV V to one other k 201) 200, (), rfl, by rfl, by dsimp only; rw [ht]; exact hw⟩, hS.F ht⟩) hS.2.2 dX3_mix_75
    · skip
      have c35 : ¬ (201 ≤ 201) := fun q9 => c35 ((nc_le (a := 201) (b := 201) (by omega) (by omega)).mpr q9)
      omega

set_option maxHeartbeats 4000000 in
set_option maxRecDepth 100000 in
theorem conX3_where (l : Launch) (D : va_G) (T : Nat → ClassId) (ad : Nat → Nat) (F V : Nat → Nat → Int32) (sr : SRs) (C : Nat → Int32) (k j : Nat) (lo hi : Int32) (hk : k < 8) (hj : j < 5) : Met l yX3_where wsX3_where ({ frames := 2, cells := 0, slots := 0, locals := 43 }) (cP D T [.ref (ad 0), .int (nI k), .int (nI j), .int lo, .int hi] (fun H => PLW D T ad F V sr C H)) (va_Qi (fun (r : Int32) (_ : Unit) => r = cntZ (whrZ (F k) (V j) lo hi 201) 201) (fun _ t => PLW D T ad (va_up F k (whrZ (F k) (V j) lo hi 201)) V sr C t.heap) (PLA ad)) 0 0 (PLA ad) := by
  refine Met.ofW (cc := cX3_where) (maxL := 9) (ret := (some .int)) (by decide) rfl ?_
  intro p e s m args below meth c s₁ B hml hv9
  obtain ⟨rfl, hK, hw⟩ := hv9
  have hx := B.exec
  have hb := B.bytes
  have hr := B.returns
  have hts := atoms_spec (ws := wsX3_where) B.pre
  have hown : s.vm.findClass RX3 = some m.cls := findClass_of_methodNamed B.named
  have hlocks := B.notSynchronized
  generalize hAe : (PLA ad) = A
  have hA : ∀ i : Nat, i < 37 → A (ad i) := fun i hi => by subst hAe; exact ⟨i, hi, rfl⟩
  have hS : va_S A s.heap s.heap [] := va_S.rf
  have hl := lv_entry ([.ref (ad 0), .int (nI k), .int (nI j), .int lo, .int hi]) (n := 9) (Nat.le_of_ble_eq_true rfl)
  rw [lg_entry_eq]
  generalize (lg_sl ([.ref (ad 0), .int (nI k), .int (nI j), .int lo, .int hi]) ++ List.replicate (9 - (lg_sl ([.ref (ad 0), .int (nI k), .int (nI j), .int lo, .int hi])).length) Slot.unset).toArray = ls at hl ⊢
  have hl : lv_has ls 9 [(0, .ref (ad 0)), (1, .int (nI k)), (2, .int (nI j)), (3, .int lo), (4, .int hi)] := hl
  refine lv_aload_n hx hb dX3_where_0 rfl (lv_at hl 0 rfl) ?_
  refine lv_iload_n hx hb dX3_where_1 rfl (lv_at hl 1 rfl) ?_
  refine va_csr (ad := fun k => .ref k) (va_runV (As := [.int (nI k)]) (rest := []) ⟨hx, hb, hml, hown, hts⟩ (conX3_setAt l D T ad F V sr C k (by omega)) (cwV 1 hts gX3_where_X3_setAt rfl rfl rfl (by decide +kernel) ⟨Nat.le_of_ble_eq_true rfl, Nat.le_of_ble_eq_true rfl⟩) (preV hK hw.o rfl hw) rfl rfl hl.1 rfl (lv_room (Nat.le_of_ble_eq_true rfl)) dX3_where_2 ⟨Nat.le_of_ble_eq_true rfl, Nat.le_of_ble_eq_true rfl⟩).run (fun r1 hr1 => ?_)
  subst hr1
  refine lv_astore (lv' := [(5, .ref (ad (4 + k))), (0, .ref (ad 0)), (1, .int (nI k)), (2, .int (nI j)), (3, .int lo), (4, .int hi)]) hx hb dX3_where_5 hl (by decide) rfl (fun ls hl => ?_)
  refine lv_aload_n hx hb dX3_where_7 rfl (lv_at hl 1 rfl) ?_
  refine lv_iload_n hx hb dX3_where_8 rfl (lv_at hl 3 rfl) ?_
  refine va_csr (ad := fun k => .ref k) (va_runV (As := [.int (nI j)]) (rest := []) ⟨hx, hb, hml, hown, hts⟩ (conX3_functionAt l D T ad F V sr C j (by omega)) (cwV 1 hts gX3_where_X3_functionAt rfl rfl rfl (by decide +kernel) ⟨Nat.le_of_ble_eq_true rfl, Nat.le_of_ble_eq_true rfl⟩) (preV hK hw.o rfl hw) rfl rfl hl.1 rfl (lv_room (Nat.le_of_ble_eq_true rfl)) dX3_where_9 ⟨Nat.le_of_ble_eq_true rfl, Nat.le_of_ble_eq_true rfl⟩).run (fun r2 hr2 => ?_)
  subst hr2
  refine lv_astore (lv' := [(6, .ref (ad (22 + j))), (5, .ref (ad (4 + k))), (0, .ref (ad 0)), (1, .int (nI k)), (2, .int (nI j)), (3, .int lo), (4, .int hi)]) hx hb dX3_where_12 hl (by decide) rfl (fun ls hl => ?_)
  refine lv_iconst (v := nI 0) hx hb dX3_where_14 (by decide) ?_
  refine lv_istore (lv' := [(7, .int (nI 0)), (6, .ref (ad (22 + j))), (5, .ref (ad (4 + k))), (0, .ref (ad 0)), (1, .int (nI k)), (2, .int (nI j)), (3, .int lo), (4, .int hi)]) hx hb dX3_where_15 hl (by decide) rfl (fun ls hl => ?_)
  refine q_for (fun (i : Nat) (H : Heap) (locs : List Loc) (ls : Array Slot) => va_S A s.heap H locs ∧ lv_has ls 9 [(7, .int (nI i)), (6, .ref (ad (22 + j))), (5, .ref (ad (4 + k))), (0, .ref (ad 0)), (1, .int (nI k)), (2, .int (nI j)), (3, .int lo), (4, .int hi)] ∧ PLW D T ad (va_up F k (whrZ (F k) (V j) lo hi i)) V sr C H) (N := 201) 0 (by omega) ?_ ?_ ?_
  · skip
    have e3 : F = va_up F k (whrZ (F k) (V j) lo hi 0) := by (rw [whrZ_0, va_up_id])
    exact ⟨hS, lv_sub hl [0, 1, 2, 3, 4, 5, 6, 7] rfl, ((e3 ▸ hw) : PLW D T ad (va_up F k (whrZ (F k) (V j) lo hi 0)) V sr C _)⟩
  · skip
    intro i H locs ls hi9 hin9 hnext
    obtain ⟨hS, hl, hw⟩ := hin9
    refine lv_iload hx hb dX3_where_17 (lv_at hl 0 rfl) ?_
    refine lv_sipush (v := nI 201) hx hb dX3_where_19 (by decide) ?_
    refine lv_icmp_ge (tgt := 65) hx hb dX3_where_22 (by decide) (fun c22 => ?_) (fun c22 => ?_)
    · skip
      have c22 : 201 ≤ i := (nc_le (a := 201) (b := i) (by omega) (by omega)).mp c22
      omega
    · skip
      have c22 : ¬ (201 ≤ i) := fun q9 => c22 ((nc_le (a := 201) (b := i) (by omega) (by omega)).mpr q9)
      refine lv_aload hx hb dX3_where_25 (lv_at hl 1 rfl) ?_
      refine lv_iload hx hb dX3_where_27 (lv_at hl 0 rfl) ?_
      refine vp_callSi (va_runV (As := [.int (nI i)]) (rest := []) ⟨hx, hb, hml, hown, hts⟩ (conX2_at l D T (ad (22 + j)) (ad (28 + j)) (V j) (nI i)) (cwV 1 hts gX3_where_X2_at rfl rfl rfl (by decide +kernel) ⟨Nat.le_of_ble_eq_true rfl, Nat.le_of_ble_eq_true rfl⟩) (preV hK (hw.f j (by omega)) rfl ⟨(hw.sf j (by omega)).1, (hw.sf j (by omega)).2.1, (hw.sf j (by omega)).2.2⟩) rfl rfl hl.1 rfl (lv_room (Nat.le_of_ble_eq_true rfl)) dX3_where_29 ⟨Nat.le_of_ble_eq_true rfl, Nat.le_of_ble_eq_true rfl⟩).run (fun r4 hr4 => ?_)
      rw [hr4]
      refine lv_istore (lv' := [(8, .int (atV (V j) (nI i))), (7, .int (nI i)), (6, .ref (ad (22 + j))), (5, .ref (ad (4 + k))), (0, .ref (ad 0)), (1, .int (nI k)), (2, .int (nI j)), (3, .int lo), (4, .int hi)]) hx hb dX3_where_32 hl (by decide) rfl (fun ls hl => ?_)
      refine lv_aload hx hb dX3_where_34 (lv_at hl 3 rfl) ?_
      refine lv_iload hx hb dX3_where_36 (lv_at hl 1 rfl) ?_
      refine lv_iload_n hx hb dX3_where_38 rfl (lv_at hl 7 rfl) ?_
      refine lv_iload hx hb dX3_where_39 (lv_at hl 0 rfl) ?_
      refine lv_icmp_gt (tgt := 55) hx hb dX3_where_41 (by decide) (fun c41 => ?_) (fun c41 => ?_)
      · skip
        refine lv_iconst (v := nI 0) hx hb dX3_where_55 (by decide) ?_
        refine va_callv (va_runV (As := [.int (nI i), .int (nI 0)]) (rest := []) ⟨hx, hb, hml, hown, hts⟩ (conX0_write l D T (ad (4 + k)) (ad (13 + k)) (whrZ (F k) (V j) lo hi i) (nI i) (nI 0) (rfl)) (cwV 2 hts gX3_where_X0_write rfl rfl rfl (by decide +kernel) ⟨Nat.le_of_ble_eq_true rfl, Nat.le_of_ble_eq_true rfl⟩) (preV hK (hw.g k (by omega)) rfl ⟨(hw.gsU k (by omega)).1, (hw.gsU k (by omega)).2.1, (hw.gsU k (by omega)).2.2⟩) rfl rfl hl.1 rfl (lv_room (Nat.le_of_ble_eq_true rfl)) dX3_where_56 ⟨Nat.le_of_ble_eq_true rfl, Nat.le_of_ble_eq_true rfl⟩) hS (fun q _ h9 => (by have h8 : q = ad (13 + k) := h9; rw [h8]; exact hA (13 + k) (by omega))) (fun q h9 => (by have h8 : q = ad (13 + k) := h9; rw [h8]; exact hA (13 + k) (by omega))) (fun u t H1 locs1 ht hvm hw9 hB hz1 hk1 hS => ?_)
        try dsimp only at hB
        rw [ht] at hB
        replace hw := hw.setFU k (by omega) hB (fun q h1 h2 => hk1 q h1 h2)
        refine lv_iinc (v := nI (i + 1)) (lv' := [(7, .int (nI (i + 1))), (8, .int (atV (V j) (nI i))), (6, .ref (ad (22 + j))), (5, .ref (ad (4 + k))), (0, .ref (ad 0)), (1, .int (nI k)), (2, .int (nI j)), (3, .int lo), (4, .int hi)]) hx hb dX3_where_59 hl (k := 1) rfl (inc_1 _) (by decide) rfl (fun ls hl => ?_)
        refine lv_goto (tgt := 17) hx hb dX3_where_62 (by decide) ?_
        have e5 : va_up F k (wrZ (whrZ (F k) (V j) lo hi i) (nI i) (nI 0)) = va_up F k (whrZ (F k) (V j) lo hi (i + 1)) := by first | (rw [whrZ_s, if_pos c41]; done) | (rw [whrZ_s, if_neg c41, if_pos c48]; done) | (rw [whrZ_s, if_neg c41, if_neg c48]; done)
        exact hnext _ _ _ ⟨hS, lv_sub hl [0, 2, 3, 4, 5, 6, 7, 8] rfl, ((e5 ▸ hw) : PLW D T ad (va_up F k (whrZ (F k) (V j) lo hi (i + 1))) V sr C _)⟩
      · skip
        refine lv_iload hx hb dX3_where_44 (lv_at hl 0 rfl) ?_
        refine lv_iload hx hb dX3_where_46 (lv_at hl 8 rfl) ?_
        refine lv_icmp_gt (tgt := 55) hx hb dX3_where_48 (by decide) (fun c48 => ?_) (fun c48 => ?_)
        · skip
          refine lv_iconst (v := nI 0) hx hb dX3_where_55 (by decide) ?_
          refine va_callv (va_runV (As := [.int (nI i), .int (nI 0)]) (rest := []) ⟨hx, hb, hml, hown, hts⟩ (conX0_write l D T (ad (4 + k)) (ad (13 + k)) (whrZ (F k) (V j) lo hi i) (nI i) (nI 0) (rfl)) (cwV 2 hts gX3_where_X0_write rfl rfl rfl (by decide +kernel) ⟨Nat.le_of_ble_eq_true rfl, Nat.le_of_ble_eq_true rfl⟩) (preV hK (hw.g k (by omega)) rfl ⟨(hw.gsU k (by omega)).1, (hw.gsU k (by omega)).2.1, (hw.gsU k (by omega)).2.2⟩) rfl rfl hl.1 rfl (lv_room (Nat.le_of_ble_eq_true rfl)) dX3_where_56 ⟨Nat.le_of_ble_eq_true rfl, Nat.le_of_ble_eq_true rfl⟩) hS (fun q _ h9 => (by have h8 : q = ad (13 + k) := h9; rw [h8]; exact hA (13 + k) (by omega))) (fun q h9 => (by have h8 : q = ad (13 + k) := h9; rw [h8]; exact hA (13 + k) (by omega))) (fun u t H1 locs1 ht hvm hw9 hB hz1 hk1 hS => ?_)
          try dsimp only at hB
          rw [ht] at hB
          replace hw := hw.setFU k (by omega) hB (fun q h1 h2 => hk1 q h1 h2)
          refine lv_iinc (v := nI (i + 1)) (lv' := [(7, .int (nI (i + 1))), (8, .int (atV (V j) (nI i))), (6, .ref (ad (22 + j))), (5, .ref (ad (4 + k))), (0, .ref (ad 0)), (1, .int (nI k)), (2, .int (nI j)), (3, .int lo), (4, .int hi)]) hx hb dX3_where_59 hl (k := 1) rfl (inc_1 _) (by decide) rfl (fun ls hl => ?_)
          refine lv_goto (tgt := 17) hx hb dX3_where_62 (by decide) ?_
          have e6 : va_up F k (wrZ (whrZ (F k) (V j) lo hi i) (nI i) (nI 0)) = va_up F k (whrZ (F k) (V j) lo hi (i + 1)) := by first | (rw [whrZ_s, if_pos c41]; done) | (rw [whrZ_s, if_neg c41, if_pos c48]; done) | (rw [whrZ_s, if_neg c41, if_neg c48]; done)
          exact hnext _ _ _ ⟨hS, lv_sub hl [0, 2, 3, 4, 5, 6, 7, 8] rfl, ((e6 ▸ hw) : PLW D T ad (va_up F k (whrZ (F k) (V j) lo hi (i + 1))) V sr C _)⟩
        · skip
          refine lv_iconst (v := nI 1) hx hb dX3_where_51 (by decide) ?_
          refine lv_goto (tgt := 56) hx hb dX3_where_52 (by decide) ?_
          refine va_callv (va_runV (As := [.int (nI i), .int (nI 1)]) (rest := []) ⟨hx, hb, hml, hown, hts⟩ (conX0_write l D T (ad (4 + k)) (ad (13 + k)) (whrZ (F k) (V j) lo hi i) (nI i) (nI 1) (rfl)) (cwV 2 hts gX3_where_X0_write rfl rfl rfl (by decide +kernel) ⟨Nat.le_of_ble_eq_true rfl, Nat.le_of_ble_eq_true rfl⟩) (preV hK (hw.g k (by omega)) rfl ⟨(hw.gsU k (by omega)).1, (hw.gsU k (by omega)).2.1, (hw.gsU k (by omega)).2.2⟩) rfl rfl hl.1 rfl (lv_room (Nat.le_of_ble_eq_true rfl)) dX3_where_56 ⟨Nat.le_of_ble_eq_true rfl, Nat.le_of_ble_eq_true rfl⟩) hS (fun q _ h9 => (by have h8 : q = ad (13 + k) := h9; rw [h8]; exact hA (13 + k) (by omega))) (fun q h9 => (by have h8 : q = ad (13 + k) := h9; rw [h8]; exact hA (13 + k) (by omega))) (fun u t H1 locs1 ht hvm hw9 hB hz1 hk1 hS => ?_)
          try dsimp only at hB
          rw [ht] at hB
          replace hw := hw.setFU k (by omega) hB (fun q h1 h2 => hk1 q h1 h2)
          refine lv_iinc (v := nI (i + 1)) (lv' := [(7, .int (nI (i + 1))), (8, .int (atV (V j) (nI i))), (6, .ref (ad (22 + j))), (5, .ref (ad (4 + k))), (0, .ref (ad 0)), (1, .int (nI k)), (2, .int (nI j)), (3, .int lo), (4, .int hi)]) hx hb dX3_where_59 hl (k := 1) rfl (inc_1 _) (by decide) rfl (fun ls hl => ?_)
          refine lv_goto (tgt := 17) hx hb dX3_where_62 (by decide) ?_
          have e7 : va_up F k (wrZ (whrZ (F k) (V j) lo hi i) (nI i) (nI 1)) = va_up F k (whrZ (F k) (V j) lo hi (i + 1)) := by first | (rw [whrZ_s, if_pos c41]; done) | (rw [whrZ_s, if_neg c41, if_pos c48]; done) | (rw [whrZ_s, if_neg c41, if_neg c48]; done)
          exact hnext _ _ _ ⟨hS, lv_sub hl [0, 2, 3, 4, 5, 6, 7, 8] rfl, ((e7 ▸ hw) : PLW D T ad (va_up F k (whrZ (F k) (V j) lo hi (i + 1))) V sr C _)⟩
  · skip
    intro H locs ls hin9
    obtain ⟨hS, hl, hw⟩ := hin9
    refine lv_iload hx hb dX3_where_17 (lv_at hl 0 rfl) ?_
    refine lv_sipush (v := nI 201) hx hb dX3_where_19 (by decide) ?_
    refine lv_icmp_ge (tgt := 65) hx hb dX3_where_22 (by decide) (fun c22 => ?_) (fun c22 => ?_)
    · skip
      have c22 : 201 ≤ 201 := (nc_le (a := 201) (b := 201) (by omega) (by omega)).mp c22
      refine lv_aload hx hb dX3_where_65 (lv_at hl 2 rfl) ?_
      refine vp_callSi (va_runV (As := []) (rest := []) ⟨hx, hb, hml, hown, hts⟩ (conX0_count l D T (ad (4 + k)) (ad (13 + k)) (whrZ (F k) (V j) lo hi 201)) (cwV 0 hts gX3_where_X0_count rfl rfl rfl (by decide +kernel) ⟨Nat.le_of_ble_eq_true rfl, Nat.le_of_ble_eq_true rfl⟩) (preV hK (hw.g k (by omega)) rfl ⟨(hw.gsU k (by omega)).1, (hw.gsU k (by omega)).2.1, (hw.gsU k (by omega)).2.2⟩) rfl rfl hl.1 rfl (lv_room (Nat.le_of_ble_eq_true rfl)) dX3_where_67 ⟨Nat.le_of_ble_eq_true rfl, Nat.le_of_ble_eq_true rfl⟩).run (fun r8 hr8 => ?_)
      rw [hr8]
      exact W.iret (v := cntZ (whrZ (F k) (V j) lo hi 201) 201) hx hb hr (fun t ht _ => ⟨⟨cntZ (whrZ (F k) (V j) lo hi 201) 201, (), rfl, by rfl, by dsimp only; rw [ht]; exact hw⟩, hS.F ht⟩) hS.2.2 dX3_where_70
    · skip
      have c22 : ¬ (201 ≤ 201) := fun q9 => c22 ((nc_le (a := 201) (b := 201) (by omega) (by omega)).mpr q9)
      omega

set_option maxHeartbeats 4000000 in
set_option maxRecDepth 100000 in
theorem conX3_value (l : Launch) (D : va_G) (T : Nat → ClassId) (ad : Nat → Nat) (F V : Nat → Nat → Int32) (sr : SRs) (C : Nat → Int32) (k : Nat) (hk : k < 5) (g : Nat) (hg : g < 201) : Met l yX3_value wsX3_value ({ frames := 1, cells := 0, slots := 0, locals := 22 }) (cP D T [.ref (ad 0), .int (nI k), .int (nI g)] (fun H => PLW D T ad F V sr C H)) (vp_Si (fun r => r = atV (V k) (nI g))) 0 0 (fun _ => False) := by
  refine Met.ofW (cc := cX3_value) (maxL := 4) (ret := (some .int)) (by decide) rfl ?_
  intro p e s m args below meth c s₁ B hml hv9
  obtain ⟨rfl, hK, hw⟩ := hv9
  have hx := B.exec
  have hb := B.bytes
  have hr := B.returns
  have hts := atoms_spec (ws := wsX3_value) B.pre
  have hown : s.vm.findClass RX3 = some m.cls := findClass_of_methodNamed B.named
  have hlocks := B.notSynchronized
  have hl := lv_entry ([.ref (ad 0), .int (nI k), .int (nI g)]) (n := 4) (Nat.le_of_ble_eq_true rfl)
  rw [lg_entry_eq]
  generalize (lg_sl ([.ref (ad 0), .int (nI k), .int (nI g)]) ++ List.replicate (4 - (lg_sl ([.ref (ad 0), .int (nI k), .int (nI g)])).length) Slot.unset).toArray = ls at hl ⊢
  have hl : lv_has ls 4 [(0, .ref (ad 0)), (1, .int (nI k)), (2, .int (nI g))] := hl
  refine lv_aload_n hx hb dX3_value_0 rfl (lv_at hl 0 rfl) ?_
  refine lv_iload_n hx hb dX3_value_1 rfl (lv_at hl 1 rfl) ?_
  refine va_csr (ad := fun k => .ref k) (va_runV (As := [.int (nI k)]) (rest := []) ⟨hx, hb, hml, hown, hts⟩ (conX3_functionAt l D T ad F V sr C k (by omega)) (cwV 1 hts gX3_value_X3_functionAt rfl rfl rfl (by decide +kernel) ⟨Nat.le_of_ble_eq_true rfl, Nat.le_of_ble_eq_true rfl⟩) (preV hK hw.o rfl hw) rfl rfl hl.1 rfl (lv_room (Nat.le_of_ble_eq_true rfl)) dX3_value_2 ⟨Nat.le_of_ble_eq_true rfl, Nat.le_of_ble_eq_true rfl⟩).run (fun r1 hr1 => ?_)
  subst hr1
  refine lv_astore_n (lv' := [(3, .ref (ad (22 + k))), (0, .ref (ad 0)), (1, .int (nI k)), (2, .int (nI g))]) hx hb dX3_value_5 rfl hl (by decide) rfl (fun ls hl => ?_)
  refine lv_iload_n hx hb dX3_value_6 rfl (lv_at hl 3 rfl) ?_
  refine va_csv (va_runS (As := [.int (nI g)]) (rest := []) ⟨hx, hb, hml, hown, hts⟩ (conX3_checkGrain l D T g (by omega)) (va_cwS 1 hts gX3_value_X3_checkGrain rfl rfl rfl (by decide +kernel) ⟨Nat.le_of_ble_eq_true rfl, Nat.le_of_ble_eq_true rfl⟩) (preS hK trivial) rfl rfl hl.1 rfl (lv_room (Nat.le_of_ble_eq_true rfl)) dX3_value_7 ⟨Nat.le_of_ble_eq_true rfl, Nat.le_of_ble_eq_true rfl⟩).run (fun _ => ?_)
  refine lv_aload_n hx hb dX3_value_10 rfl (lv_at hl 0 rfl) ?_
  refine lv_iload_n hx hb dX3_value_11 rfl (lv_at hl 3 rfl) ?_
  refine vp_callSi (va_runV (As := [.int (nI g)]) (rest := []) ⟨hx, hb, hml, hown, hts⟩ (conX2_at l D T (ad (22 + k)) (ad (28 + k)) (V k) (nI g)) (cwV 1 hts gX3_value_X2_at rfl rfl rfl (by decide +kernel) ⟨Nat.le_of_ble_eq_true rfl, Nat.le_of_ble_eq_true rfl⟩) (preV hK (hw.f k (by omega)) rfl ⟨(hw.sf k (by omega)).1, (hw.sf k (by omega)).2.1, (hw.sf k (by omega)).2.2⟩) rfl rfl hl.1 rfl (lv_room (Nat.le_of_ble_eq_true rfl)) dX3_value_12 ⟨Nat.le_of_ble_eq_true rfl, Nat.le_of_ble_eq_true rfl⟩).run (fun r2 hr2 => ?_)
  rw [hr2]
  exact W.iret (v := atV (V k) (nI g)) hx hb hr (fun t ht _ => ⟨atV (V k) (nI g), rfl, by rfl, ht⟩) (fun q hq => absurd hq List.not_mem_nil) dX3_value_15

set_option maxHeartbeats 4000000 in
set_option maxRecDepth 100000 in
theorem conX3_areaOver (l : Launch) (D : va_G) (T : Nat → ClassId) (ad : Nat → Nat) (F V : Nat → Nat → Int32) (sr : SRs) (C : Nat → Int32) (k j : Nat) (hk : k < 6) (hj : j < 9) : Met l yX3_areaOver wsX3_areaOver ({ frames := 1, cells := 0, slots := 0, locals := 21 }) (cP D T [.ref (ad (22 + k)), .ref (ad (4 + j))] (fun H => PLW D T ad F V sr C H)) (vp_Si (fun r => r = aroV (V k) (F j) 100)) 0 0 (fun _ => False) := by
  refine Met.ofW (cc := cX3_areaOver) (maxL := 4) (ret := (some .int)) (by decide) rfl ?_
  intro p e s m args below meth c s₁ B hml hv9
  obtain ⟨rfl, hK, hw⟩ := hv9
  have hx := B.exec
  have hb := B.bytes
  have hr := B.returns
  have hts := atoms_spec (ws := wsX3_areaOver) B.pre
  have hown : s.vm.findClass RX3 = some m.cls := findClass_of_methodNamed B.named
  have hlocks := B.notSynchronized
  have hl := lv_entry ([.ref (ad (22 + k)), .ref (ad (4 + j))]) (n := 4) (Nat.le_of_ble_eq_true rfl)
  rw [lg_entry_eq]
  generalize (lg_sl ([.ref (ad (22 + k)), .ref (ad (4 + j))]) ++ List.replicate (4 - (lg_sl ([.ref (ad (22 + k)), .ref (ad (4 + j))])).length) Slot.unset).toArray = ls at hl ⊢
  have hl : lv_has ls 4 [(0, .ref (ad (22 + k))), (1, .ref (ad (4 + j)))] := hl
  refine lv_iconst (v := nI 0) hx hb dX3_areaOver_0 (by decide) ?_
  refine lv_istore_n (lv' := [(2, .int (nI 0)), (0, .ref (ad (22 + k))), (1, .ref (ad (4 + j)))]) hx hb dX3_areaOver_1 rfl hl (by decide) rfl (fun ls hl => ?_)
  refine lv_iconst (v := nI 1) hx hb dX3_areaOver_2 (by decide) ?_
  refine lv_istore_n (lv' := [(3, .int (nI 1)), (2, .int (nI 0)), (0, .ref (ad (22 + k))), (1, .ref (ad (4 + j)))]) hx hb dX3_areaOver_3 rfl hl (by decide) rfl (fun ls hl => ?_)
  refine q_for (fun (i : Nat) (H : Heap) (locs : List Loc) (ls : Array Slot) => H = s.heap ∧ locs = [] ∧ lv_has ls 4 [(3, .int (nI (2 * i + 1))), (2, .int (aroV (V k) (F j) i)), (0, .ref (ad (22 + k))), (1, .ref (ad (4 + j)))]) (N := 100) 0 (by omega) ?_ ?_ ?_
  · skip
    have e1 : nI 0 = aroV (V k) (F j) 0 := by rfl
    exact ⟨rfl, rfl, lv_sub (lv_ex hl 1 rfl (congrArg Value.int e1)) [0, 1, 2, 3] rfl⟩
  · skip
    intro i H locs ls hi9 hin9 hnext
    obtain ⟨rfl, rfl, hl⟩ := hin9
    refine lv_iload_n hx hb dX3_areaOver_4 rfl (lv_at hl 0 rfl) ?_
    refine lv_sipush (v := nI 201) hx hb dX3_areaOver_5 (by decide) ?_
    refine lv_icmp_ge (tgt := 33) hx hb dX3_areaOver_8 (by decide) (fun c8 => ?_) (fun c8 => ?_)
    · skip
      have c8 : 201 ≤ 2 * i + 1 := (nc_le (a := 201) (b := 2 * i + 1) (by omega) (by omega)).mp c8
      omega
    · skip
      have c8 : ¬ (201 ≤ 2 * i + 1) := fun q9 => c8 ((nc_le (a := 201) (b := 2 * i + 1) (by omega) (by omega)).mpr q9)
      refine lv_aload_n hx hb dX3_areaOver_11 rfl (lv_at hl 3 rfl) ?_
      refine lv_iload_n hx hb dX3_areaOver_12 rfl (lv_at hl 0 rfl) ?_
      refine vp_callSi (va_runV (As := [.int (nI (2 * i + 1))]) (rest := []) ⟨hx, hb, hml, hown, hts⟩ (conX0_holds l D T (ad (4 + j)) (ad (13 + j)) (F j) (nI (2 * i + 1))) (cwV 1 hts gX3_areaOver_X0_holds rfl rfl rfl (by decide +kernel) ⟨Nat.le_of_ble_eq_true rfl, Nat.le_of_ble_eq_true rfl⟩) (preV hK (hw.g j (by omega)) rfl ⟨(hw.gs j (by omega)).1, (hw.gs j (by omega)).2.1, (hw.gs j (by omega)).2.2⟩) rfl rfl hl.1 rfl (lv_room (Nat.le_of_ble_eq_true rfl)) dX3_areaOver_13 ⟨Nat.le_of_ble_eq_true rfl, Nat.le_of_ble_eq_true rfl⟩).run (fun r2 hr2 => ?_)
      rw [hr2]
      refine lv_if_eq (tgt := 27) hx hb dX3_areaOver_16 (by decide) (fun c16 => ?_) (fun c16 => ?_)
      · skip
        refine lv_iinc (v := nI ((2 * i + 1) + 2)) (lv' := [(3, .int (nI ((2 * i + 1) + 2))), (2, .int (aroV (V k) (F j) i)), (0, .ref (ad (22 + k))), (1, .ref (ad (4 + j)))]) hx hb dX3_areaOver_27 hl (k := 0) rfl (inc_2 _) (by decide) rfl (fun ls hl => ?_)
        refine lv_goto (tgt := 4) hx hb dX3_areaOver_30 (by decide) ?_
        have e3 : nI ((2 * i + 1) + 2) = nI (2 * (i + 1) + 1) := by (first | rfl | (congr 1; omega))
        have e4 : aroV (V k) (F j) i = aroV (V k) (F j) (i + 1) := by first | (rw [aroV_s, if_pos c16]; done) | (rw [aroV_s, if_neg c16]; done)
        exact hnext _ _ _ ⟨rfl, rfl, lv_sub (lv_ex (lv_ex hl 0 rfl (congrArg Value.int e3)) 1 rfl (congrArg Value.int e4)) [0, 1, 2, 3] rfl⟩
      · skip
        refine lv_iload_n hx hb dX3_areaOver_19 rfl (lv_at hl 1 rfl) ?_
        refine lv_aload_n hx hb dX3_areaOver_20 rfl (lv_at hl 2 rfl) ?_
        refine lv_iload_n hx hb dX3_areaOver_21 rfl (lv_at hl 0 rfl) ?_
        refine vp_callSi (va_runV (As := [.int (nI (2 * i + 1))]) (rest := [.int (aroV (V k) (F j) i)]) ⟨hx, hb, hml, hown, hts⟩ (conX2_at l D T (ad (22 + k)) (ad (28 + k)) (V k) (nI (2 * i + 1))) (cwV 1 hts gX3_areaOver_X2_at rfl rfl rfl (by decide +kernel) ⟨Nat.le_of_ble_eq_true rfl, Nat.le_of_ble_eq_true rfl⟩) (preV hK (hw.f k (by omega)) rfl ⟨(hw.sf k (by omega)).1, (hw.sf k (by omega)).2.1, (hw.sf k (by omega)).2.2⟩) rfl rfl hl.1 rfl (lv_room (Nat.le_of_ble_eq_true rfl)) dX3_areaOver_22 ⟨Nat.le_of_ble_eq_true rfl, Nat.le_of_ble_eq_true rfl⟩).run (fun r5 hr5 => ?_)
        rw [hr5]
        refine lv_iadd hx hb dX3_areaOver_25 ?_
        refine lv_istore_n (lv' := [(2, .int ((aroV (V k) (F j) i) + (atV (V k) (nI (2 * i + 1))))), (3, .int (nI (2 * i + 1))), (0, .ref (ad (22 + k))), (1, .ref (ad (4 + j)))]) hx hb dX3_areaOver_26 rfl hl (by decide) rfl (fun ls hl => ?_)
        refine lv_iinc (v := nI ((2 * i + 1) + 2)) (lv' := [(3, .int (nI ((2 * i + 1) + 2))), (2, .int ((aroV (V k) (F j) i) + (atV (V k) (nI (2 * i + 1))))), (0, .ref (ad (22 + k))), (1, .ref (ad (4 + j)))]) hx hb dX3_areaOver_27 hl (k := 1) rfl (inc_2 _) (by decide) rfl (fun ls hl => ?_)
        refine lv_goto (tgt := 4) hx hb dX3_areaOver_30 (by decide) ?_
        have e6 : nI ((2 * i + 1) + 2) = nI (2 * (i + 1) + 1) := by (first | rfl | (congr 1; omega))
        have e7 : (aroV (V k) (F j) i) + (atV (V k) (nI (2 * i + 1))) = aroV (V k) (F j) (i + 1) := by first | (rw [aroV_s, if_pos c16]; done) | (rw [aroV_s, if_neg c16]; done)
        exact hnext _ _ _ ⟨rfl, rfl, lv_sub (lv_ex (lv_ex hl 0 rfl (congrArg Value.int e6)) 1 rfl (congrArg Value.int e7)) [0, 1, 2, 3] rfl⟩
  · skip
    intro H locs ls hin9
    obtain ⟨rfl, rfl, hl⟩ := hin9
    refine lv_iload_n hx hb dX3_areaOver_4 rfl (lv_at hl 0 rfl) ?_
    refine lv_sipush (v := nI 201) hx hb dX3_areaOver_5 (by decide) ?_
    refine lv_icmp_ge (tgt := 33) hx hb dX3_areaOver_8 (by decide) (fun c8 => ?_) (fun c8 => ?_)
    · skip
      have c8 : 201 ≤ 201 := (nc_le (a := 201) (b := 201) (by omega) (by omega)).mp c8
      refine lv_iload_n hx hb dX3_areaOver_33 rfl (lv_at hl 1 rfl) ?_
      exact W.iret (v := aroV (V k) (F j) 100) hx hb hr (fun t ht _ => ⟨aroV (V k) (F j) 100, rfl, by rfl, ht⟩) (fun q hq => absurd hq List.not_mem_nil) dX3_areaOver_34
    · skip
      have c8 : ¬ (201 ≤ 201) := fun q9 => c8 ((nc_le (a := 201) (b := 201) (by omega) (by omega)).mpr q9)
      omega

set_option maxHeartbeats 4000000 in
set_option maxRecDepth 100000 in
theorem conX3_area (l : Launch) (D : va_G) (T : Nat → ClassId) (ad : Nat → Nat) (F V : Nat → Nat → Int32) (sr : SRs) (C : Nat → Int32) (k : Nat) (hk : k < 5) (j : Nat) (hj : j < 8) : Met l yX3_area wsX3_area ({ frames := 2, cells := 0, slots := 0, locals := 44 }) (cP D T [.ref (ad 0), .int (nI k), .int (nI j)] (fun H => PLW D T ad F V sr C H)) (vp_Si (fun r => r = aroV (V k) (F j) 100)) 0 0 (fun _ => False) := by
  refine Met.ofW (cc := cX3_area) (maxL := 4) (ret := (some .int)) (by decide) rfl ?_
  intro p e s m args below meth c s₁ B hml hv9
  obtain ⟨rfl, hK, hw⟩ := hv9
  have hx := B.exec
  have hb := B.bytes
  have hr := B.returns
  have hts := atoms_spec (ws := wsX3_area) B.pre
  have hown : s.vm.findClass RX3 = some m.cls := findClass_of_methodNamed B.named
  have hlocks := B.notSynchronized
  have hl := lv_entry ([.ref (ad 0), .int (nI k), .int (nI j)]) (n := 4) (Nat.le_of_ble_eq_true rfl)
  rw [lg_entry_eq]
  generalize (lg_sl ([.ref (ad 0), .int (nI k), .int (nI j)]) ++ List.replicate (4 - (lg_sl ([.ref (ad 0), .int (nI k), .int (nI j)])).length) Slot.unset).toArray = ls at hl ⊢
  have hl : lv_has ls 4 [(0, .ref (ad 0)), (1, .int (nI k)), (2, .int (nI j))] := hl
  refine lv_aload_n hx hb dX3_area_0 rfl (lv_at hl 0 rfl) ?_
  refine lv_iload_n hx hb dX3_area_1 rfl (lv_at hl 1 rfl) ?_
  refine va_csr (ad := fun k => .ref k) (va_runV (As := [.int (nI k)]) (rest := []) ⟨hx, hb, hml, hown, hts⟩ (conX3_functionAt l D T ad F V sr C k (by omega)) (cwV 1 hts gX3_area_X3_functionAt rfl rfl rfl (by decide +kernel) ⟨Nat.le_of_ble_eq_true rfl, Nat.le_of_ble_eq_true rfl⟩) (preV hK hw.o rfl hw) rfl rfl hl.1 rfl (lv_room (Nat.le_of_ble_eq_true rfl)) dX3_area_2 ⟨Nat.le_of_ble_eq_true rfl, Nat.le_of_ble_eq_true rfl⟩).run (fun r1 hr1 => ?_)
  subst hr1
  refine lv_astore_n (lv' := [(3, .ref (ad (22 + k))), (0, .ref (ad 0)), (1, .int (nI k)), (2, .int (nI j))]) hx hb dX3_area_5 rfl hl (by decide) rfl (fun ls hl => ?_)
  refine lv_aload_n hx hb dX3_area_6 rfl (lv_at hl 0 rfl) ?_
  refine lv_aload_n hx hb dX3_area_7 rfl (lv_at hl 1 rfl) ?_
  refine lv_iload_n hx hb dX3_area_8 rfl (lv_at hl 3 rfl) ?_
  refine va_csr (ad := fun k => .ref k) (va_runV (As := [.int (nI j)]) (rest := [.ref (ad (22 + k))]) ⟨hx, hb, hml, hown, hts⟩ (conX3_setAt l D T ad F V sr C j (by omega)) (cwV 1 hts gX3_area_X3_setAt rfl rfl rfl (by decide +kernel) ⟨Nat.le_of_ble_eq_true rfl, Nat.le_of_ble_eq_true rfl⟩) (preV hK hw.o rfl hw) rfl rfl hl.1 rfl (lv_room (Nat.le_of_ble_eq_true rfl)) dX3_area_9 ⟨Nat.le_of_ble_eq_true rfl, Nat.le_of_ble_eq_true rfl⟩).run (fun r2 hr2 => ?_)
  subst hr2
  refine vp_callSi (va_runS (As := [.ref (ad (22 + k)), .ref (ad (4 + j))]) (rest := []) ⟨hx, hb, hml, hown, hts⟩ (conX3_areaOver l D T ad F V sr C k j (by omega) (by omega)) (va_cwS 2 hts gX3_area_X3_areaOver rfl rfl rfl (by decide +kernel) ⟨Nat.le_of_ble_eq_true rfl, Nat.le_of_ble_eq_true rfl⟩) (preS hK hw) rfl rfl hl.1 rfl (lv_room (Nat.le_of_ble_eq_true rfl)) dX3_area_12 ⟨Nat.le_of_ble_eq_true rfl, Nat.le_of_ble_eq_true rfl⟩).run (fun r3 hr3 => ?_)
  rw [hr3]
  exact W.iret (v := aroV (V k) (F j) 100) hx hb hr (fun t ht _ => ⟨aroV (V k) (F j) 100, rfl, by rfl, ht⟩) (fun q hq => absurd hq List.not_mem_nil) dX3_area_15

set_option maxHeartbeats 4000000 in
set_option maxRecDepth 100000 in
theorem conX3_areaBetween (l : Launch) (D : va_G) (T : Nat → ClassId) (ad : Nat → Nat) (F V : Nat → Nat → Int32) (sr : SRs) (C : Nat → Int32) (k a b : Nat) (hk : k < 6) (ha9 : a ≤ 1000) (hb9 : b ≤ 1000) : Met l yX3_areaBetween wsX3_areaBetween ({ frames := 1, cells := 0, slots := 0, locals := 21 }) (cP D T [.ref (ad (22 + k)), .int (nI a), .int (nI b)] (fun H => PLW D T ad F V sr C H)) (vp_Si (fun r => r = arwV (V k) a (b - a))) 0 0 (fun _ => False) := by
  refine Met.ofW (cc := cX3_areaBetween) (maxL := 5) (ret := (some .int)) (by decide) rfl ?_
  intro p e s m args below meth c s₁ B hml hv9
  obtain ⟨rfl, hK, hw⟩ := hv9
  have hx := B.exec
  have hb := B.bytes
  have hr := B.returns
  have hts := atoms_spec (ws := wsX3_areaBetween) B.pre
  have hown : s.vm.findClass RX3 = some m.cls := findClass_of_methodNamed B.named
  have hlocks := B.notSynchronized
  have hl := lv_entry ([.ref (ad (22 + k)), .int (nI a), .int (nI b)]) (n := 5) (Nat.le_of_ble_eq_true rfl)
  rw [lg_entry_eq]
  generalize (lg_sl ([.ref (ad (22 + k)), .int (nI a), .int (nI b)]) ++ List.replicate (5 - (lg_sl ([.ref (ad (22 + k)), .int (nI a), .int (nI b)])).length) Slot.unset).toArray = ls at hl ⊢
  have hl : lv_has ls 5 [(0, .ref (ad (22 + k))), (1, .int (nI a)), (2, .int (nI b))] := hl
  refine lv_iconst (v := nI 0) hx hb dX3_areaBetween_0 (by decide) ?_
  refine lv_istore_n (lv' := [(3, .int (nI 0)), (0, .ref (ad (22 + k))), (1, .int (nI a)), (2, .int (nI b))]) hx hb dX3_areaBetween_1 rfl hl (by decide) rfl (fun ls hl => ?_)
  refine lv_iload_n hx hb dX3_areaBetween_2 rfl (lv_at hl 2 rfl) ?_
  refine lv_istore (lv' := [(4, .int (nI a)), (3, .int (nI 0)), (0, .ref (ad (22 + k))), (1, .int (nI a)), (2, .int (nI b))]) hx hb dX3_areaBetween_3 hl (by decide) rfl (fun ls hl => ?_)
  refine q_for (fun (i : Nat) (H : Heap) (locs : List Loc) (ls : Array Slot) => H = s.heap ∧ locs = [] ∧ lv_has ls 5 [(4, .int (nI (a + i))), (3, .int (arwV (V k) a i)), (0, .ref (ad (22 + k))), (1, .int (nI a)), (2, .int (nI b))]) (N := (b - a)) 0 (by omega) ?_ ?_ ?_
  · skip
    have e1 : nI a = nI (a + 0) := by rfl
    have e2 : nI 0 = arwV (V k) a 0 := by rfl
    exact ⟨rfl, rfl, lv_sub (lv_ex (lv_ex hl 0 rfl (congrArg Value.int e1)) 1 rfl (congrArg Value.int e2)) [0, 1, 2, 3, 4] rfl⟩
  · skip
    intro i H locs ls hi9 hin9 hnext
    obtain ⟨rfl, rfl, hl⟩ := hin9
    refine lv_iload hx hb dX3_areaBetween_5 (lv_at hl 0 rfl) ?_
    refine lv_iload_n hx hb dX3_areaBetween_7 rfl (lv_at hl 4 rfl) ?_
    refine lv_icmp_ge (tgt := 30) hx hb dX3_areaBetween_8 (by decide) (fun c8 => ?_) (fun c8 => ?_)
    · skip
      have c8 : b ≤ a + i := (nc_le (a := b) (b := a + i) (by omega) (by omega)).mp c8
      omega
    · skip
      have c8 : ¬ (b ≤ a + i) := fun q9 => c8 ((nc_le (a := b) (b := a + i) (by omega) (by omega)).mpr q9)
      refine lv_iload_n hx hb dX3_areaBetween_11 rfl (lv_at hl 1 rfl) ?_
      refine lv_aload_n hx hb dX3_areaBetween_12 rfl (lv_at hl 2 rfl) ?_
      refine lv_iconst (v := nI 2) hx hb dX3_areaBetween_13 (by decide) ?_
      refine lv_iload hx hb dX3_areaBetween_14 (lv_at hl 0 rfl) ?_
      refine lv_imul hx hb dX3_areaBetween_16 ?_
      rw [pk_mul]
      refine lv_iconst (v := nI 1) hx hb dX3_areaBetween_17 (by decide) ?_
      refine lv_iadd hx hb dX3_areaBetween_18 ?_
      rw [nI_add]
      refine vp_callSi (va_runV (As := [.int (nI ((2 * (a + i)) + 1))]) (rest := [.int (arwV (V k) a i)]) ⟨hx, hb, hml, hown, hts⟩ (conX2_at l D T (ad (22 + k)) (ad (28 + k)) (V k) (nI ((2 * (a + i)) + 1))) (cwV 1 hts gX3_areaBetween_X2_at rfl rfl rfl (by decide +kernel) ⟨Nat.le_of_ble_eq_true rfl, Nat.le_of_ble_eq_true rfl⟩) (preV hK (hw.f k (by omega)) rfl ⟨(hw.sf k (by omega)).1, (hw.sf k (by omega)).2.1, (hw.sf k (by omega)).2.2⟩) rfl rfl hl.1 rfl (lv_room (Nat.le_of_ble_eq_true rfl)) dX3_areaBetween_19 ⟨Nat.le_of_ble_eq_true rfl, Nat.le_of_ble_eq_true rfl⟩).run (fun r3 hr3 => ?_)
      rw [hr3]
      refine lv_iadd hx hb dX3_areaBetween_22 ?_
      refine lv_istore_n (lv' := [(3, .int ((arwV (V k) a i) + (atV (V k) (nI ((2 * (a + i)) + 1))))), (4, .int (nI (a + i))), (0, .ref (ad (22 + k))), (1, .int (nI a)), (2, .int (nI b))]) hx hb dX3_areaBetween_23 rfl hl (by decide) rfl (fun ls hl => ?_)
      refine lv_iinc (v := nI (a + i + 1)) (lv' := [(4, .int (nI (a + i + 1))), (3, .int ((arwV (V k) a i) + (atV (V k) (nI ((2 * (a + i)) + 1))))), (0, .ref (ad (22 + k))), (1, .int (nI a)), (2, .int (nI b))]) hx hb dX3_areaBetween_24 hl (k := 1) rfl (inc_1 _) (by decide) rfl (fun ls hl => ?_)
      refine lv_goto (tgt := 5) hx hb dX3_areaBetween_27 (by decide) ?_
      have e4 : nI (a + i + 1) = nI (a + (i + 1)) := by rfl
      have e5 : (arwV (V k) a i) + (atV (V k) (nI ((2 * (a + i)) + 1))) = arwV (V k) a (i + 1) := by (rw [arwV_s])
      exact hnext _ _ _ ⟨rfl, rfl, lv_sub (lv_ex (lv_ex hl 0 rfl (congrArg Value.int e4)) 1 rfl (congrArg Value.int e5)) [0, 1, 2, 3, 4] rfl⟩
  · skip
    intro H locs ls hin9
    obtain ⟨rfl, rfl, hl⟩ := hin9
    refine lv_iload hx hb dX3_areaBetween_5 (lv_at hl 0 rfl) ?_
    refine lv_iload_n hx hb dX3_areaBetween_7 rfl (lv_at hl 4 rfl) ?_
    refine lv_icmp_ge (tgt := 30) hx hb dX3_areaBetween_8 (by decide) (fun c8 => ?_) (fun c8 => ?_)
    · skip
      have c8 : b ≤ a + (b - a) := (nc_le (a := b) (b := a + (b - a)) (by omega) (by omega)).mp c8
      refine lv_iload_n hx hb dX3_areaBetween_30 rfl (lv_at hl 1 rfl) ?_
      exact W.iret (v := arwV (V k) a (b - a)) hx hb hr (fun t ht _ => ⟨arwV (V k) a (b - a), rfl, by rfl, ht⟩) (fun q hq => absurd hq List.not_mem_nil) dX3_areaBetween_31
    · skip
      have c8 : ¬ (b ≤ a + (b - a)) := fun q9 => c8 ((nc_le (a := b) (b := a + (b - a)) (by omega) (by omega)).mpr q9)
      omega

set_option maxHeartbeats 4000000 in
set_option maxRecDepth 100000 in
theorem conX3_factOfFunction (l : Launch) (D : va_G) (T : Nat → ClassId) (ad : Nat → Nat) (F V : Nat → Nat → Int32) (sr : SRs) (C : Nat → Int32) (k w : Nat) (hk : k < 6) (hw9 : w ≤ 4) : Met l yX3_factOfFunction wsX3_factOfFunction ({ frames := 2, cells := 0, slots := 0, locals := 45 }) (cP D T [.ref (ad (22 + k)), .int (nI w)] (fun H => PLW D T ad F V sr C H)) (vp_Si (fun r => r = facFv (V k) w)) 0 0 (fun _ => False) := by
  refine Met.ofW (cc := cX3_factOfFunction) (maxL := 2) (ret := (some .int)) (by decide) rfl ?_
  intro p e s m args below meth c s₁ B hml hv9
  obtain ⟨rfl, hK, hw⟩ := hv9
  have hx := B.exec
  have hb := B.bytes
  have hr := B.returns
  have hts := atoms_spec (ws := wsX3_factOfFunction) B.pre
  have hown : s.vm.findClass RX3 = some m.cls := findClass_of_methodNamed B.named
  have hlocks := B.notSynchronized
  have hl := lv_entry ([.ref (ad (22 + k)), .int (nI w)]) (n := 2) (Nat.le_of_ble_eq_true rfl)
  rw [lg_entry_eq]
  generalize (lg_sl ([.ref (ad (22 + k)), .int (nI w)]) ++ List.replicate (2 - (lg_sl ([.ref (ad (22 + k)), .int (nI w)])).length) Slot.unset).toArray = ls at hl ⊢
  have hl : lv_has ls 2 [(0, .ref (ad (22 + k))), (1, .int (nI w))] := hl
  refine lv_iload_n hx hb dX3_factOfFunction_0 rfl (lv_at hl 1 rfl) ?_
  by_cases e1_0 : w = 0
  · skip
    refine lv_tableIn (off := 31) (tgt := 32) hx hb dX3_factOfFunction_1 (by rw [e1_0]; decide) (by rw [e1_0]; decide) (by rw [e1_0]; rfl) (by decide) ?_
    refine lv_aload_n hx hb dX3_factOfFunction_32 rfl (lv_at hl 0 rfl) ?_
    refine vp_callSi (va_runV (As := []) (rest := []) ⟨hx, hb, hml, hown, hts⟩ (conX2_steps l D T (ad (22 + k)) (ad (28 + k)) (V k)) (cwV 0 hts gX3_factOfFunction_X2_steps rfl rfl rfl (by decide +kernel) ⟨Nat.le_of_ble_eq_true rfl, Nat.le_of_ble_eq_true rfl⟩) (preV hK (hw.f k (by omega)) rfl ⟨(hw.sf k (by omega)).1, (hw.sf k (by omega)).2.1, (hw.sf k (by omega)).2.2⟩) rfl rfl hl.1 rfl (lv_room (Nat.le_of_ble_eq_true rfl)) dX3_factOfFunction_33 ⟨Nat.le_of_ble_eq_true rfl, Nat.le_of_ble_eq_true rfl⟩).run (fun r1 hr1 => ?_)
    rw [hr1]
    exact W.iret (v := stepsV (V k) 200) hx hb hr (fun t ht _ => ⟨stepsV (V k) 200, rfl, by (rw [facFv, if_pos e1_0]; try rfl), ht⟩) (fun q hq => absurd hq List.not_mem_nil) dX3_factOfFunction_36
  by_cases e1_1 : w = 1
  · skip
    refine lv_tableIn (off := 36) (tgt := 37) hx hb dX3_factOfFunction_1 (by rw [e1_1]; decide) (by rw [e1_1]; decide) (by rw [e1_1]; rfl) (by decide) ?_
    refine lv_aload_n hx hb dX3_factOfFunction_37 rfl (lv_at hl 0 rfl) ?_
    refine lv_iconst (v := nI 0) hx hb dX3_factOfFunction_38 (by decide) ?_
    refine lv_sipush (v := nI 200) hx hb dX3_factOfFunction_39 (by decide) ?_
    refine vp_callSi (va_runV (As := [.int (nI 0), .int (nI 200)]) (rest := []) ⟨hx, hb, hml, hown, hts⟩ (conX2_least l D T (ad (22 + k)) (ad (28 + k)) (V k) 0 201 (nI 0) (nI 200) (by omega) (by omega) (jmax_0 (by omega)) (by rw [nI_toInt (by omega)]; omega)) (cwV 2 hts gX3_factOfFunction_X2_least rfl rfl rfl (by decide +kernel) ⟨Nat.le_of_ble_eq_true rfl, Nat.le_of_ble_eq_true rfl⟩) (preV hK (hw.f k (by omega)) rfl ⟨(hw.sf k (by omega)).1, (hw.sf k (by omega)).2.1, (hw.sf k (by omega)).2.2⟩) rfl rfl hl.1 rfl (lv_room (Nat.le_of_ble_eq_true rfl)) dX3_factOfFunction_42 ⟨Nat.le_of_ble_eq_true rfl, Nat.le_of_ble_eq_true rfl⟩).run (fun r2 hr2 => ?_)
    rw [hr2]
    exact W.iret (v := lstV (V k) 0 (min 201 201 - 0)) hx hb hr (fun t ht _ => ⟨lstV (V k) 0 (min 201 201 - 0), rfl, by (rw [facFv, if_neg (by omega), if_pos e1_1]; try rfl), ht⟩) (fun q hq => absurd hq List.not_mem_nil) dX3_factOfFunction_45
  by_cases e1_2 : w = 2
  · skip
    refine lv_tableIn (off := 45) (tgt := 46) hx hb dX3_factOfFunction_1 (by rw [e1_2]; decide) (by rw [e1_2]; decide) (by rw [e1_2]; rfl) (by decide) ?_
    refine lv_aload_n hx hb dX3_factOfFunction_46 rfl (lv_at hl 0 rfl) ?_
    refine lv_iconst (v := nI 0) hx hb dX3_factOfFunction_47 (by decide) ?_
    refine lv_sipush (v := nI 200) hx hb dX3_factOfFunction_48 (by decide) ?_
    refine vp_callSi (va_runV (As := [.int (nI 0), .int (nI 200)]) (rest := []) ⟨hx, hb, hml, hown, hts⟩ (conX2_greatest l D T (ad (22 + k)) (ad (28 + k)) (V k) 0 201 (nI 0) (nI 200) (by omega) (by omega) (jmax_0 (by omega)) (by rw [nI_toInt (by omega)]; omega)) (cwV 2 hts gX3_factOfFunction_X2_greatest rfl rfl rfl (by decide +kernel) ⟨Nat.le_of_ble_eq_true rfl, Nat.le_of_ble_eq_true rfl⟩) (preV hK (hw.f k (by omega)) rfl ⟨(hw.sf k (by omega)).1, (hw.sf k (by omega)).2.1, (hw.sf k (by omega)).2.2⟩) rfl rfl hl.1 rfl (lv_room (Nat.le_of_ble_eq_true rfl)) dX3_factOfFunction_51 ⟨Nat.le_of_ble_eq_true rfl, Nat.le_of_ble_eq_true rfl⟩).run (fun r3 hr3 => ?_)
    rw [hr3]
    exact W.iret (v := grtV (V k) 0 (min 201 201 - 0)) hx hb hr (fun t ht _ => ⟨grtV (V k) 0 (min 201 201 - 0), rfl, by (rw [facFv, if_neg (by omega), if_neg (by omega), if_pos e1_2]; try rfl), ht⟩) (fun q hq => absurd hq List.not_mem_nil) dX3_factOfFunction_54
  by_cases e1_3 : w = 3
  · skip
    refine lv_tableIn (off := 54) (tgt := 55) hx hb dX3_factOfFunction_1 (by rw [e1_3]; decide) (by rw [e1_3]; decide) (by rw [e1_3]; rfl) (by decide) ?_
    refine lv_aload_n hx hb dX3_factOfFunction_55 rfl (lv_at hl 0 rfl) ?_
    refine vp_callSi (va_runV (As := []) (rest := []) ⟨hx, hb, hml, hown, hts⟩ (conX2_firstGreatest l D T (ad (22 + k)) (ad (28 + k)) (V k)) (cwV 0 hts gX3_factOfFunction_X2_firstGreatest rfl rfl rfl (by decide +kernel) ⟨Nat.le_of_ble_eq_true rfl, Nat.le_of_ble_eq_true rfl⟩) (preV hK (hw.f k (by omega)) rfl ⟨(hw.sf k (by omega)).1, (hw.sf k (by omega)).2.1, (hw.sf k (by omega)).2.2⟩) rfl rfl hl.1 rfl (lv_room (Nat.le_of_ble_eq_true rfl)) dX3_factOfFunction_56 ⟨Nat.le_of_ble_eq_true rfl, Nat.le_of_ble_eq_true rfl⟩).run (fun r4 hr4 => ?_)
    rw [hr4]
    exact W.iret (v := fgrV (V k) 200) hx hb hr (fun t ht _ => ⟨fgrV (V k) 200, rfl, by (rw [facFv, if_neg (by omega), if_neg (by omega), if_neg (by omega), if_pos e1_3]; try rfl), ht⟩) (fun q hq => absurd hq List.not_mem_nil) dX3_factOfFunction_59
  refine lv_tableOut (tgt := 60) hx hb dX3_factOfFunction_1 (Or.inr (by rw [nI_toInt (by omega)]; omega)) (by decide) ?_
  refine lv_aload_n hx hb dX3_factOfFunction_60 rfl (lv_at hl 0 rfl) ?_
  refine lv_iconst (v := nI 0) hx hb dX3_factOfFunction_61 (by decide) ?_
  refine lv_bipush (v := nI 100) hx hb dX3_factOfFunction_62 (by decide) ?_
  refine vp_callSi (va_runS (As := [.ref (ad (22 + k)), .int (nI 0), .int (nI 100)]) (rest := []) ⟨hx, hb, hml, hown, hts⟩ (conX3_areaBetween l D T ad F V sr C k 0 100 (by omega) (by omega) (by omega)) (va_cwS 3 hts gX3_factOfFunction_X3_areaBetween rfl rfl rfl (by decide +kernel) ⟨Nat.le_of_ble_eq_true rfl, Nat.le_of_ble_eq_true rfl⟩) (preS hK hw) rfl rfl hl.1 rfl (lv_room (Nat.le_of_ble_eq_true rfl)) dX3_factOfFunction_64 ⟨Nat.le_of_ble_eq_true rfl, Nat.le_of_ble_eq_true rfl⟩).run (fun r5 hr5 => ?_)
  rw [hr5]
  exact W.iret (v := arwV (V k) 0 (100 - 0)) hx hb hr (fun t ht _ => ⟨arwV (V k) 0 (100 - 0), rfl, by (rw [facFv, if_neg e1_0, if_neg e1_1, if_neg e1_2, if_neg e1_3]; try rfl), ht⟩) (fun q hq => absurd hq List.not_mem_nil) dX3_factOfFunction_67

set_option maxHeartbeats 4000000 in
set_option maxRecDepth 100000 in
theorem conX3_ofFunction (l : Launch) (D : va_G) (T : Nat → ClassId) (ad : Nat → Nat) (F V : Nat → Nat → Int32) (sr : SRs) (C : Nat → Int32) (k : Nat) (hk : k < 5) (w : Nat) (hw9 : w ≤ 4) : Met l yX3_ofFunction wsX3_ofFunction ({ frames := 3, cells := 0, slots := 0, locals := 66 }) (cP D T [.ref (ad 0), .int (nI k), .int (nI w)] (fun H => PLW D T ad F V sr C H)) (vp_Si (fun r => r = facFv (V k) w)) 0 0 (fun _ => False) := by
  refine Met.ofW (cc := cX3_ofFunction) (maxL := 4) (ret := (some .int)) (by decide) rfl ?_
  intro p e s m args below meth c s₁ B hml hv9
  obtain ⟨rfl, hK, hw⟩ := hv9
  have hx := B.exec
  have hb := B.bytes
  have hr := B.returns
  have hts := atoms_spec (ws := wsX3_ofFunction) B.pre
  have hown : s.vm.findClass RX3 = some m.cls := findClass_of_methodNamed B.named
  have hlocks := B.notSynchronized
  have hl := lv_entry ([.ref (ad 0), .int (nI k), .int (nI w)]) (n := 4) (Nat.le_of_ble_eq_true rfl)
  rw [lg_entry_eq]
  generalize (lg_sl ([.ref (ad 0), .int (nI k), .int (nI w)]) ++ List.replicate (4 - (lg_sl ([.ref (ad 0), .int (nI k), .int (nI w)])).length) Slot.unset).toArray = ls at hl ⊢
  have hl : lv_has ls 4 [(0, .ref (ad 0)), (1, .int (nI k)), (2, .int (nI w))] := hl
  refine lv_aload_n hx hb dX3_ofFunction_0 rfl (lv_at hl 0 rfl) ?_
  refine lv_iload_n hx hb dX3_ofFunction_1 rfl (lv_at hl 1 rfl) ?_
  refine va_csr (ad := fun k => .ref k) (va_runV (As := [.int (nI k)]) (rest := []) ⟨hx, hb, hml, hown, hts⟩ (conX3_functionAt l D T ad F V sr C k (by omega)) (cwV 1 hts gX3_ofFunction_X3_functionAt rfl rfl rfl (by decide +kernel) ⟨Nat.le_of_ble_eq_true rfl, Nat.le_of_ble_eq_true rfl⟩) (preV hK hw.o rfl hw) rfl rfl hl.1 rfl (lv_room (Nat.le_of_ble_eq_true rfl)) dX3_ofFunction_2 ⟨Nat.le_of_ble_eq_true rfl, Nat.le_of_ble_eq_true rfl⟩).run (fun r1 hr1 => ?_)
  subst hr1
  refine lv_astore_n (lv' := [(3, .ref (ad (22 + k))), (0, .ref (ad 0)), (1, .int (nI k)), (2, .int (nI w))]) hx hb dX3_ofFunction_5 rfl hl (by decide) rfl (fun ls hl => ?_)
  refine lv_iload_n hx hb dX3_ofFunction_6 rfl (lv_at hl 3 rfl) ?_
  refine lv_iconst (v := nI 4) hx hb dX3_ofFunction_7 (by decide) ?_
  refine va_csv (va_runS (As := [.int (nI w), .int (nI 4)]) (rest := []) ⟨hx, hb, hml, hown, hts⟩ (conX3_checkChoice l D T w 4 (by omega) (by omega)) (va_cwS 2 hts gX3_ofFunction_X3_checkChoice rfl rfl rfl (by decide +kernel) ⟨Nat.le_of_ble_eq_true rfl, Nat.le_of_ble_eq_true rfl⟩) (preS hK trivial) rfl rfl hl.1 rfl (lv_room (Nat.le_of_ble_eq_true rfl)) dX3_ofFunction_8 ⟨Nat.le_of_ble_eq_true rfl, Nat.le_of_ble_eq_true rfl⟩).run (fun _ => ?_)
  refine lv_aload_n hx hb dX3_ofFunction_11 rfl (lv_at hl 0 rfl) ?_
  refine lv_iload_n hx hb dX3_ofFunction_12 rfl (lv_at hl 3 rfl) ?_
  refine vp_callSi (va_runS (As := [.ref (ad (22 + k)), .int (nI w)]) (rest := []) ⟨hx, hb, hml, hown, hts⟩ (conX3_factOfFunction l D T ad F V sr C k w (by omega) (by omega)) (va_cwS 2 hts gX3_ofFunction_X3_factOfFunction rfl rfl rfl (by decide +kernel) ⟨Nat.le_of_ble_eq_true rfl, Nat.le_of_ble_eq_true rfl⟩) (preS hK hw) rfl rfl hl.1 rfl (lv_room (Nat.le_of_ble_eq_true rfl)) dX3_ofFunction_13 ⟨Nat.le_of_ble_eq_true rfl, Nat.le_of_ble_eq_true rfl⟩).run (fun r2 hr2 => ?_)
  rw [hr2]
  exact W.iret (v := facFv (V k) w) hx hb hr (fun t ht _ => ⟨facFv (V k) w, rfl, by rfl, ht⟩) (fun q hq => absurd hq List.not_mem_nil) dX3_ofFunction_16
