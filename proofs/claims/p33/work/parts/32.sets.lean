set_option maxHeartbeats 4000000 in
set_option maxRecDepth 100000 in
theorem conX3_span (l : Launch) (D : va_G) (T : Nat → ClassId) (ad : Nat → Nat) (F V : Nat → Nat → Int32) (sr : SRs) (C : Nat → Int32) (k a b ee : Nat) (v : Int32) (hk : k < 8) (hab : a ≤ b) (hb9 : b ≤ 100) (he : ee ≤ 3) (hv : vp_nar .boolean v = v) : Met l yX3_span wsX3_span ({ frames := 2, cells := 0, slots := 0, locals := 47 }) (cP D T [.ref (ad 0), .int (nI k), .int (nI a), .int (nI b), .int (nI ee), .int v] (fun H => PLW D T ad F V sr C H)) (va_Qi (fun (r : Int32) (_ : Unit) => r = (fillS (F k) v (fgN a b ee) (min (lgN a b ee) 201 - fgN a b ee)).2) (fun _ t => PLW D T ad (va_up F k ((fillS (F k) v (fgN a b ee) (min (lgN a b ee) 201 - fgN a b ee)).1)) V sr C t.heap) (PLA ad)) 0 0 (PLA ad) := by
  refine Met.ofW (cc := cX3_span) (maxL := 7) (ret := (some .int)) (by decide) rfl ?_
  intro p e s m args below meth c s₁ B hml hv9
  obtain ⟨rfl, hK, hw⟩ := hv9
  have hx := B.exec
  have hb := B.bytes
  have hr := B.returns
  have hts := atoms_spec (ws := wsX3_span) B.pre
  have hown : s.vm.findClass RX3 = some m.cls := findClass_of_methodNamed B.named
  have hlocks := B.notSynchronized
  generalize hAe : (PLA ad) = A
  have hA : ∀ i : Nat, i < 37 → A (ad i) := fun i hi => by subst hAe; exact ⟨i, hi, rfl⟩
  have hS : va_S A s.heap s.heap [] := va_S.rf
  have hl := lv_entry ([.ref (ad 0), .int (nI k), .int (nI a), .int (nI b), .int (nI ee), .int v]) (n := 7) (Nat.le_of_ble_eq_true rfl)
  rw [lg_entry_eq]
  generalize (lg_sl ([.ref (ad 0), .int (nI k), .int (nI a), .int (nI b), .int (nI ee), .int v]) ++ List.replicate (7 - (lg_sl ([.ref (ad 0), .int (nI k), .int (nI a), .int (nI b), .int (nI ee), .int v])).length) Slot.unset).toArray = ls at hl ⊢
  have hl : lv_has ls 7 [(0, .ref (ad 0)), (1, .int (nI k)), (2, .int (nI a)), (3, .int (nI b)), (4, .int (nI ee)), (5, .int v)] := hl
  have hfg : fgN a b ee ≤ 200 := fgN_le hab hb9
  have hlg : lgN a b ee ≤ 201 := lgN_le hb9
  refine lv_aload_n hx hb dX3_span_0 rfl (lv_at hl 0 rfl) ?_
  refine lv_iload_n hx hb dX3_span_1 rfl (lv_at hl 1 rfl) ?_
  refine va_csr (ad := fun k => .ref k) (va_runV (As := [.int (nI k)]) (rest := []) ⟨hx, hb, hml, hown, hts⟩ (conX3_setAt l D T ad F V sr C k (by omega)) (cwV 1 hts gX3_span_X3_setAt rfl rfl rfl (by decide +kernel) ⟨Nat.le_of_ble_eq_true rfl, Nat.le_of_ble_eq_true rfl⟩) (preV hK hw.o rfl hw) rfl rfl hl.1 rfl (lv_room (Nat.le_of_ble_eq_true rfl)) dX3_span_2 ⟨Nat.le_of_ble_eq_true rfl, Nat.le_of_ble_eq_true rfl⟩).run (fun r1 hr1 => ?_)
  subst hr1
  refine lv_astore (lv' := [(6, .ref (ad (4 + k))), (0, .ref (ad 0)), (1, .int (nI k)), (2, .int (nI a)), (3, .int (nI b)), (4, .int (nI ee)), (5, .int v)]) hx hb dX3_span_5 hl (by decide) rfl (fun ls hl => ?_)
  refine lv_iload_n hx hb dX3_span_7 rfl (lv_at hl 3 rfl) ?_
  refine lv_iload_n hx hb dX3_span_8 rfl (lv_at hl 4 rfl) ?_
  refine lv_iload hx hb dX3_span_9 (lv_at hl 5 rfl) ?_
  refine va_csv (va_runS (As := [.int (nI a), .int (nI b), .int (nI ee)]) (rest := []) ⟨hx, hb, hml, hown, hts⟩ (conX3_checkSpan l D T a b ee (by omega) (by omega) (by omega)) (va_cwS 3 hts gX3_span_X3_checkSpan rfl rfl rfl (by decide +kernel) ⟨Nat.le_of_ble_eq_true rfl, Nat.le_of_ble_eq_true rfl⟩) (preS hK trivial) rfl rfl hl.1 rfl (lv_room (Nat.le_of_ble_eq_true rfl)) dX3_span_11 ⟨Nat.le_of_ble_eq_true rfl, Nat.le_of_ble_eq_true rfl⟩).run (fun _ => ?_)
  refine lv_aload hx hb dX3_span_14 (lv_at hl 0 rfl) ?_
  refine lv_iload_n hx hb dX3_span_16 rfl (lv_at hl 3 rfl) ?_
  refine lv_iload_n hx hb dX3_span_17 rfl (lv_at hl 4 rfl) ?_
  refine lv_iload hx hb dX3_span_18 (lv_at hl 5 rfl) ?_
  refine vp_callSi (va_runS (As := [.int (nI a), .int (nI b), .int (nI ee)]) (rest := [.ref (ad (4 + k))]) ⟨hx, hb, hml, hown, hts⟩ (conX3_firstGrain l D T a b ee (by omega) (by omega) (by omega)) (va_cwS 3 hts gX3_span_X3_firstGrain rfl rfl rfl (by decide +kernel) ⟨Nat.le_of_ble_eq_true rfl, Nat.le_of_ble_eq_true rfl⟩) (preS hK trivial) rfl rfl hl.1 rfl (lv_room (Nat.le_of_ble_eq_true rfl)) dX3_span_20 ⟨Nat.le_of_ble_eq_true rfl, Nat.le_of_ble_eq_true rfl⟩).run (fun r2 hr2 => ?_)
  subst hr2
  refine lv_iload_n hx hb dX3_span_23 rfl (lv_at hl 3 rfl) ?_
  refine lv_iload_n hx hb dX3_span_24 rfl (lv_at hl 4 rfl) ?_
  refine lv_iload hx hb dX3_span_25 (lv_at hl 5 rfl) ?_
  refine vp_callSi (va_runS (As := [.int (nI a), .int (nI b), .int (nI ee)]) (rest := [.int (nI (fgN a b ee)), .ref (ad (4 + k))]) ⟨hx, hb, hml, hown, hts⟩ (conX3_lastGrain l D T a b ee (by omega) (by omega) (by omega)) (va_cwS 3 hts gX3_span_X3_lastGrain rfl rfl rfl (by decide +kernel) ⟨Nat.le_of_ble_eq_true rfl, Nat.le_of_ble_eq_true rfl⟩) (preS hK trivial) rfl rfl hl.1 rfl (lv_room (Nat.le_of_ble_eq_true rfl)) dX3_span_27 ⟨Nat.le_of_ble_eq_true rfl, Nat.le_of_ble_eq_true rfl⟩).run (fun r3 hr3 => ?_)
  refine lv_iload hx hb dX3_span_30 (lv_at hl 6 rfl) ?_
  refine va_calli (va_runV (As := [.int (nI (fgN a b ee)), .int r3, .int v]) (rest := []) ⟨hx, hb, hml, hown, hts⟩ (conX0_fill l D T (ad (4 + k)) (ad (13 + k)) (F k) (fgN a b ee) (lgN a b ee) r3 v (by omega) (by omega) hr3 (hv)) (cwV 3 hts gX3_span_X0_fill rfl rfl rfl (by decide +kernel) ⟨Nat.le_of_ble_eq_true rfl, Nat.le_of_ble_eq_true rfl⟩) (preV hK (hw.g k (by omega)) rfl ⟨(hw.gs k (by omega)).1, (hw.gs k (by omega)).2.1, (hw.gs k (by omega)).2.2⟩) rfl rfl hl.1 rfl (lv_room (Nat.le_of_ble_eq_true rfl)) dX3_span_32 ⟨Nat.le_of_ble_eq_true rfl, Nat.le_of_ble_eq_true rfl⟩) hS (fun q _ h9 => (by have h8 : q = ad (13 + k) := h9; rw [h8]; exact hA (13 + k) (by omega))) (fun q h9 => (by have h8 : q = ad (13 + k) := h9; rw [h8]; exact hA (13 + k) (by omega))) (fun r u t H1 locs1 ht hvm hw9 hB hz1 hk1 hS => ?_)
  try dsimp only at hB
  rw [ht] at hB
  subst hw9
  replace hw := hw.setF k (by omega) hB (fun q h1 h2 => hk1 q h1 h2)
  exact W.iret (v := (fillS (F k) v (fgN a b ee) (min (lgN a b ee) 201 - (fgN a b ee))).2) hx hb hr (fun t ht _ => ⟨⟨(fillS (F k) v (fgN a b ee) (min (lgN a b ee) 201 - (fgN a b ee))).2, (), rfl, by rfl, by dsimp only; rw [ht]; exact hw⟩, hS.F ht⟩) hS.2.2 dX3_span_35

set_option maxHeartbeats 4000000 in
set_option maxRecDepth 100000 in
theorem conX3_join (l : Launch) (D : va_G) (T : Nat → ClassId) (ad : Nat → Nat) (F V : Nat → Nat → Int32) (sr : SRs) (C : Nat → Int32) (to one other k : Nat) (ht9 : to < 8) (h1 : one < 8) (h2 : other < 8) (hk : k ≤ 3) : Met l yX3_join wsX3_join ({ frames := 2, cells := 0, slots := 0, locals := 43 }) (cP D T [.ref (ad 0), .int (nI to), .int (nI one), .int (nI other), .int (nI k)] (fun H => PLW D T ad F V sr C H)) (va_Qi (fun (r : Int32) (_ : Unit) => r = cntZ (jnZ F to one other k 201) 201) (fun _ t => PLW D T ad (va_up F to (jnZ F to one other k 201)) V sr C t.heap) (PLA ad)) 0 0 (PLA ad) := by
  refine Met.ofW (cc := cX3_join) (maxL := 9) (ret := (some .int)) (by decide) rfl ?_
  intro p e s m args below meth c s₁ B hml hv9
  obtain ⟨rfl, hK, hw⟩ := hv9
  have hx := B.exec
  have hb := B.bytes
  have hr := B.returns
  have hts := atoms_spec (ws := wsX3_join) B.pre
  have hown : s.vm.findClass RX3 = some m.cls := findClass_of_methodNamed B.named
  have hlocks := B.notSynchronized
  generalize hAe : (PLA ad) = A
  have hA : ∀ i : Nat, i < 37 → A (ad i) := fun i hi => by subst hAe; exact ⟨i, hi, rfl⟩
  have hS : va_S A s.heap s.heap [] := va_S.rf
  have hl := lv_entry ([.ref (ad 0), .int (nI to), .int (nI one), .int (nI other), .int (nI k)]) (n := 9) (Nat.le_of_ble_eq_true rfl)
  rw [lg_entry_eq]
  generalize (lg_sl ([.ref (ad 0), .int (nI to), .int (nI one), .int (nI other), .int (nI k)]) ++ List.replicate (9 - (lg_sl ([.ref (ad 0), .int (nI to), .int (nI one), .int (nI other), .int (nI k)])).length) Slot.unset).toArray = ls at hl ⊢
  have hl : lv_has ls 9 [(0, .ref (ad 0)), (1, .int (nI to)), (2, .int (nI one)), (3, .int (nI other)), (4, .int (nI k))] := hl
  refine lv_aload_n hx hb dX3_join_0 rfl (lv_at hl 0 rfl) ?_
  refine lv_iload_n hx hb dX3_join_1 rfl (lv_at hl 1 rfl) ?_
  refine va_csr (ad := fun k => .ref k) (va_runV (As := [.int (nI to)]) (rest := []) ⟨hx, hb, hml, hown, hts⟩ (conX3_setAt l D T ad F V sr C to (by omega)) (cwV 1 hts gX3_join_X3_setAt rfl rfl rfl (by decide +kernel) ⟨Nat.le_of_ble_eq_true rfl, Nat.le_of_ble_eq_true rfl⟩) (preV hK hw.o rfl hw) rfl rfl hl.1 rfl (lv_room (Nat.le_of_ble_eq_true rfl)) dX3_join_2 ⟨Nat.le_of_ble_eq_true rfl, Nat.le_of_ble_eq_true rfl⟩).run (fun r1 hr1 => ?_)
  subst hr1
  refine lv_astore (lv' := [(5, .ref (ad (4 + to))), (0, .ref (ad 0)), (1, .int (nI to)), (2, .int (nI one)), (3, .int (nI other)), (4, .int (nI k))]) hx hb dX3_join_5 hl (by decide) rfl (fun ls hl => ?_)
  refine lv_aload_n hx hb dX3_join_7 rfl (lv_at hl 1 rfl) ?_
  refine lv_iload_n hx hb dX3_join_8 rfl (lv_at hl 3 rfl) ?_
  refine va_csr (ad := fun k => .ref k) (va_runV (As := [.int (nI one)]) (rest := []) ⟨hx, hb, hml, hown, hts⟩ (conX3_setAt l D T ad F V sr C one (by omega)) (cwV 1 hts gX3_join_X3_setAt rfl rfl rfl (by decide +kernel) ⟨Nat.le_of_ble_eq_true rfl, Nat.le_of_ble_eq_true rfl⟩) (preV hK hw.o rfl hw) rfl rfl hl.1 rfl (lv_room (Nat.le_of_ble_eq_true rfl)) dX3_join_9 ⟨Nat.le_of_ble_eq_true rfl, Nat.le_of_ble_eq_true rfl⟩).run (fun r2 hr2 => ?_)
  subst hr2
  refine lv_astore (lv' := [(6, .ref (ad (4 + one))), (5, .ref (ad (4 + to))), (0, .ref (ad 0)), (1, .int (nI to)), (2, .int (nI one)), (3, .int (nI other)), (4, .int (nI k))]) hx hb dX3_join_12 hl (by decide) rfl (fun ls hl => ?_)
  refine lv_aload_n hx hb dX3_join_14 rfl (lv_at hl 2 rfl) ?_
  refine lv_iload_n hx hb dX3_join_15 rfl (lv_at hl 5 rfl) ?_
  refine va_csr (ad := fun k => .ref k) (va_runV (As := [.int (nI other)]) (rest := []) ⟨hx, hb, hml, hown, hts⟩ (conX3_setAt l D T ad F V sr C other (by omega)) (cwV 1 hts gX3_join_X3_setAt rfl rfl rfl (by decide +kernel) ⟨Nat.le_of_ble_eq_true rfl, Nat.le_of_ble_eq_true rfl⟩) (preV hK hw.o rfl hw) rfl rfl hl.1 rfl (lv_room (Nat.le_of_ble_eq_true rfl)) dX3_join_16 ⟨Nat.le_of_ble_eq_true rfl, Nat.le_of_ble_eq_true rfl⟩).run (fun r3 hr3 => ?_)
  subst hr3
  refine lv_astore (lv' := [(7, .ref (ad (4 + other))), (6, .ref (ad (4 + one))), (5, .ref (ad (4 + to))), (0, .ref (ad 0)), (1, .int (nI to)), (2, .int (nI one)), (3, .int (nI other)), (4, .int (nI k))]) hx hb dX3_join_19 hl (by decide) rfl (fun ls hl => ?_)
  refine lv_iload hx hb dX3_join_21 (lv_at hl 7 rfl) ?_
  refine lv_iconst (v := nI 3) hx hb dX3_join_23 (by decide) ?_
  refine va_csv (va_runS (As := [.int (nI k), .int (nI 3)]) (rest := []) ⟨hx, hb, hml, hown, hts⟩ (conX3_checkChoice l D T k 3 (by omega) (by omega)) (va_cwS 2 hts gX3_join_X3_checkChoice rfl rfl rfl (by decide +kernel) ⟨Nat.le_of_ble_eq_true rfl, Nat.le_of_ble_eq_true rfl⟩) (preS hK trivial) rfl rfl hl.1 rfl (lv_room (Nat.le_of_ble_eq_true rfl)) dX3_join_24 ⟨Nat.le_of_ble_eq_true rfl, Nat.le_of_ble_eq_true rfl⟩).run (fun _ => ?_)
  refine lv_iconst (v := nI 0) hx hb dX3_join_27 (by decide) ?_
  refine lv_istore (lv' := [(8, .int (nI 0)), (7, .ref (ad (4 + other))), (6, .ref (ad (4 + one))), (5, .ref (ad (4 + to))), (0, .ref (ad 0)), (1, .int (nI to)), (2, .int (nI one)), (3, .int (nI other)), (4, .int (nI k))]) hx hb dX3_join_28 hl (by decide) rfl (fun ls hl => ?_)
  refine q_for (fun (i : Nat) (H : Heap) (locs : List Loc) (ls : Array Slot) => va_S A s.heap H locs ∧ lv_has ls 9 [(8, .int (nI i)), (7, .ref (ad (4 + other))), (6, .ref (ad (4 + one))), (5, .ref (ad (4 + to))), (0, .ref (ad 0)), (1, .int (nI to)), (2, .int (nI one)), (3, .int (nI other)), (4, .int (nI k))] ∧ PLW D T ad (va_up F to (jnZ F to one other k i)) V sr C H) (N := 201) 0 (by omega) ?_ ?_ ?_
  · skip
    have e4 : F = va_up F to (jnZ F to one other k 0) := by (rw [jnZ_0, va_up_id])
    exact ⟨hS, lv_sub hl [0, 1, 2, 3, 4, 5, 6, 7, 8] rfl, ((e4 ▸ hw) : PLW D T ad (va_up F to (jnZ F to one other k 0)) V sr C _)⟩
  · skip
    intro i H locs ls hi9 hin9 hnext
    obtain ⟨hS, hl, hw⟩ := hin9
    refine lv_iload hx hb dX3_join_30 (lv_at hl 0 rfl) ?_
    refine lv_sipush (v := nI 201) hx hb dX3_join_32 (by decide) ?_
    refine lv_icmp_ge (tgt := 70) hx hb dX3_join_35 (by decide) (fun c35 => ?_) (fun c35 => ?_)
    · skip
      have c35 : 201 ≤ i := (nc_le (a := 201) (b := i) (by omega) (by omega)).mp c35
      omega
    · skip
      have c35 : ¬ (201 ≤ i) := fun q9 => c35 ((nc_le (a := 201) (b := i) (by omega) (by omega)).mpr q9)
      refine lv_aload hx hb dX3_join_38 (lv_at hl 3 rfl) ?_
      refine lv_iload hx hb dX3_join_40 (lv_at hl 0 rfl) ?_
      refine lv_aload hx hb dX3_join_42 (lv_at hl 2 rfl) ?_
      refine lv_iload hx hb dX3_join_44 (lv_at hl 0 rfl) ?_
      refine vp_callSi (va_runV (As := [.int (nI i)]) (rest := [.int (nI i), .ref (ad (4 + to))]) ⟨hx, hb, hml, hown, hts⟩ (conX0_holds l D T (ad (4 + one)) (ad (13 + one)) ((va_up F to (jnZ F to one other k i)) one) (nI i)) (cwV 1 hts gX3_join_X0_holds rfl rfl rfl (by decide +kernel) ⟨Nat.le_of_ble_eq_true rfl, Nat.le_of_ble_eq_true rfl⟩) (preV hK (hw.g one (by omega)) rfl ⟨(hw.gs one (by omega)).1, (hw.gs one (by omega)).2.1, (hw.gs one (by omega)).2.2⟩) rfl rfl hl.1 rfl (lv_room (Nat.le_of_ble_eq_true rfl)) dX3_join_46 ⟨Nat.le_of_ble_eq_true rfl, Nat.le_of_ble_eq_true rfl⟩).run (fun r5 hr5 => ?_)
      subst hr5
      refine lv_aload hx hb dX3_join_49 (lv_at hl 1 rfl) ?_
      refine lv_iload hx hb dX3_join_51 (lv_at hl 0 rfl) ?_
      refine vp_callSi (va_runV (As := [.int (nI i)]) (rest := [.int (holdZ ((va_up F to (jnZ F to one other k i)) one) (nI i)), .int (nI i), .ref (ad (4 + to))]) ⟨hx, hb, hml, hown, hts⟩ (conX0_holds l D T (ad (4 + other)) (ad (13 + other)) ((va_up F to (jnZ F to one other k i)) other) (nI i)) (cwV 1 hts gX3_join_X0_holds rfl rfl rfl (by decide +kernel) ⟨Nat.le_of_ble_eq_true rfl, Nat.le_of_ble_eq_true rfl⟩) (preV hK (hw.g other (by omega)) rfl ⟨(hw.gs other (by omega)).1, (hw.gs other (by omega)).2.1, (hw.gs other (by omega)).2.2⟩) rfl rfl hl.1 rfl (lv_room (Nat.le_of_ble_eq_true rfl)) dX3_join_53 ⟨Nat.le_of_ble_eq_true rfl, Nat.le_of_ble_eq_true rfl⟩).run (fun r6 hr6 => ?_)
      subst hr6
      refine lv_iload hx hb dX3_join_56 (lv_at hl 8 rfl) ?_
      refine vp_callSi (va_runS (As := [.int (holdZ ((va_up F to (jnZ F to one other k i)) one) (nI i)), .int (holdZ ((va_up F to (jnZ F to one other k i)) other) (nI i)), .int (nI k)]) (rest := [.int (nI i), .ref (ad (4 + to))]) ⟨hx, hb, hml, hown, hts⟩ (conX3_isJoined l D T (holdZ ((va_up F to (jnZ F to one other k i)) one) (nI i)) (holdZ ((va_up F to (jnZ F to one other k i)) other) (nI i)) k (by omega)) (va_cwS 3 hts gX3_join_X3_isJoined rfl rfl rfl (by decide +kernel) ⟨Nat.le_of_ble_eq_true rfl, Nat.le_of_ble_eq_true rfl⟩) (preS hK trivial) rfl rfl hl.1 rfl (lv_room (Nat.le_of_ble_eq_true rfl)) dX3_join_58 ⟨Nat.le_of_ble_eq_true rfl, Nat.le_of_ble_eq_true rfl⟩).run (fun r7 hr7 => ?_)
      subst hr7
      refine va_callv (va_runV (As := [.int (nI i), .int (joiZ (holdZ ((va_up F to (jnZ F to one other k i)) one) (nI i)) (holdZ ((va_up F to (jnZ F to one other k i)) other) (nI i)) k)]) (rest := []) ⟨hx, hb, hml, hown, hts⟩ (conX0_write l D T (ad (4 + to)) (ad (13 + to)) (jnZ F to one other k i) (nI i) (joiZ (holdZ ((va_up F to (jnZ F to one other k i)) one) (nI i)) (holdZ ((va_up F to (jnZ F to one other k i)) other) (nI i)) k) (nar_joiZ _ _ _)) (cwV 2 hts gX3_join_X0_write rfl rfl rfl (by decide +kernel) ⟨Nat.le_of_ble_eq_true rfl, Nat.le_of_ble_eq_true rfl⟩) (preV hK (hw.g to (by omega)) rfl ⟨(hw.gsU to (by omega)).1, (hw.gsU to (by omega)).2.1, (hw.gsU to (by omega)).2.2⟩) rfl rfl hl.1 rfl (lv_room (Nat.le_of_ble_eq_true rfl)) dX3_join_61 ⟨Nat.le_of_ble_eq_true rfl, Nat.le_of_ble_eq_true rfl⟩) hS (fun q _ h9 => (by have h8 : q = ad (13 + to) := h9; rw [h8]; exact hA (13 + to) (by omega))) (fun q h9 => (by have h8 : q = ad (13 + to) := h9; rw [h8]; exact hA (13 + to) (by omega))) (fun u t H1 locs1 ht hvm hw9 hB hz1 hk1 hS => ?_)
      try dsimp only at hB
      rw [ht] at hB
      replace hw := hw.setFU to (by omega) hB (fun q h1 h2 => hk1 q h1 h2)
      refine lv_iinc (v := nI (i + 1)) (lv' := [(8, .int (nI (i + 1))), (7, .ref (ad (4 + other))), (6, .ref (ad (4 + one))), (5, .ref (ad (4 + to))), (0, .ref (ad 0)), (1, .int (nI to)), (2, .int (nI one)), (3, .int (nI other)), (4, .int (nI k))]) hx hb dX3_join_64 hl (k := 0) rfl (inc_1 _) (by decide) rfl (fun ls hl => ?_)
      refine lv_goto (tgt := 30) hx hb dX3_join_67 (by decide) ?_
      have e8 : va_up F to (wrZ (jnZ F to one other k i) (nI i) (joiZ (holdZ ((va_up F to (jnZ F to one other k i)) one) (nI i)) (holdZ ((va_up F to (jnZ F to one other k i)) other) (nI i)) k)) = va_up F to (jnZ F to one other k (i + 1)) := by (rw [jnZ_s])
      exact hnext _ _ _ ⟨hS, lv_sub hl [0, 1, 2, 3, 4, 5, 6, 7, 8] rfl, ((e8 ▸ hw) : PLW D T ad (va_up F to (jnZ F to one other k (i + 1))) V sr C _)⟩
  · skip
    intro H locs ls hin9
    obtain ⟨hS, hl, hw⟩ := hin9
    refine lv_iload hx hb dX3_join_30 (lv_at hl 0 rfl) ?_
    refine lv_sipush (v := nI 201) hx hb dX3_join_32 (by decide) ?_
    refine lv_icmp_ge (tgt := 70) hx hb dX3_join_35 (by decide) (fun c35 => ?_) (fun c35 => ?_)
    · skip
      have c35 : 201 ≤ 201 := (nc_le (a := 201) (b := 201) (by omega) (by omega)).mp c35
      refine lv_aload hx hb dX3_join_70 (lv_at hl 3 rfl) ?_
      refine vp_callSi (va_runV (As := []) (rest := []) ⟨hx, hb, hml, hown, hts⟩ (conX0_count l D T (ad (4 + to)) (ad (13 + to)) (jnZ F to one other k 201)) (cwV 0 hts gX3_join_X0_count rfl rfl rfl (by decide +kernel) ⟨Nat.le_of_ble_eq_true rfl, Nat.le_of_ble_eq_true rfl⟩) (preV hK (hw.g to (by omega)) rfl ⟨(hw.gsU to (by omega)).1, (hw.gsU to (by omega)).2.1, (hw.gsU to (by omega)).2.2⟩) rfl rfl hl.1 rfl (lv_room (Nat.le_of_ble_eq_true rfl)) dX3_join_72 ⟨Nat.le_of_ble_eq_true rfl, Nat.le_of_ble_eq_true rfl⟩).run (fun r9 hr9 => ?_)
      subst hr9
      exact W.iret (v := cntZ (jnZ F to one other k 201) 201) hx hb hr (fun t ht _ => ⟨⟨cntZ (jnZ F to one other k 201) 201, (), rfl, by rfl, by dsimp only; rw [ht]; exact hw⟩, hS.F ht⟩) hS.2.2 dX3_join_75
    · skip
      have c35 : ¬ (201 ≤ 201) := fun q9 => c35 ((nc_le (a := 201) (b := 201) (by omega) (by omega)).mpr q9)
      omega

set_option maxHeartbeats 4000000 in
set_option maxRecDepth 100000 in
theorem conX3_has (l : Launch) (D : va_G) (T : Nat → ClassId) (ad : Nat → Nat) (F V : Nat → Nat → Int32) (sr : SRs) (C : Nat → Int32) (k g : Nat) (hk : k < 8) (hg : g < 201) : Met l yX3_has wsX3_has ({ frames := 2, cells := 0, slots := 0, locals := 43 }) (cP D T [.ref (ad 0), .int (nI k), .int (nI g)] (fun H => PLW D T ad F V sr C H)) (vp_Si (fun r => r = holdZ (F k) (nI g))) 0 0 (fun _ => False) := by
  refine Met.ofW (cc := cX3_has) (maxL := 4) (ret := (some .boolean)) (by decide) rfl ?_
  intro p e s m args below meth c s₁ B hml hv9
  obtain ⟨rfl, hK, hw⟩ := hv9
  have hx := B.exec
  have hb := B.bytes
  have hr := B.returns
  have hts := atoms_spec (ws := wsX3_has) B.pre
  have hown : s.vm.findClass RX3 = some m.cls := findClass_of_methodNamed B.named
  have hlocks := B.notSynchronized
  have hl := lv_entry ([.ref (ad 0), .int (nI k), .int (nI g)]) (n := 4) (Nat.le_of_ble_eq_true rfl)
  rw [lg_entry_eq]
  generalize (lg_sl ([.ref (ad 0), .int (nI k), .int (nI g)]) ++ List.replicate (4 - (lg_sl ([.ref (ad 0), .int (nI k), .int (nI g)])).length) Slot.unset).toArray = ls at hl ⊢
  have hl : lv_has ls 4 [(0, .ref (ad 0)), (1, .int (nI k)), (2, .int (nI g))] := hl
  refine lv_aload_n hx hb dX3_has_0 rfl (lv_at hl 0 rfl) ?_
  refine lv_iload_n hx hb dX3_has_1 rfl (lv_at hl 1 rfl) ?_
  refine va_csr (ad := fun k => .ref k) (va_runV (As := [.int (nI k)]) (rest := []) ⟨hx, hb, hml, hown, hts⟩ (conX3_setAt l D T ad F V sr C k (by omega)) (cwV 1 hts gX3_has_X3_setAt rfl rfl rfl (by decide +kernel) ⟨Nat.le_of_ble_eq_true rfl, Nat.le_of_ble_eq_true rfl⟩) (preV hK hw.o rfl hw) rfl rfl hl.1 rfl (lv_room (Nat.le_of_ble_eq_true rfl)) dX3_has_2 ⟨Nat.le_of_ble_eq_true rfl, Nat.le_of_ble_eq_true rfl⟩).run (fun r1 hr1 => ?_)
  subst hr1
  refine lv_astore_n (lv' := [(3, .ref (ad (4 + k))), (0, .ref (ad 0)), (1, .int (nI k)), (2, .int (nI g))]) hx hb dX3_has_5 rfl hl (by decide) rfl (fun ls hl => ?_)
  refine lv_iload_n hx hb dX3_has_6 rfl (lv_at hl 3 rfl) ?_
  refine va_csv (va_runS (As := [.int (nI g)]) (rest := []) ⟨hx, hb, hml, hown, hts⟩ (conX3_checkGrain l D T g (by omega)) (va_cwS 1 hts gX3_has_X3_checkGrain rfl rfl rfl (by decide +kernel) ⟨Nat.le_of_ble_eq_true rfl, Nat.le_of_ble_eq_true rfl⟩) (preS hK trivial) rfl rfl hl.1 rfl (lv_room (Nat.le_of_ble_eq_true rfl)) dX3_has_7 ⟨Nat.le_of_ble_eq_true rfl, Nat.le_of_ble_eq_true rfl⟩).run (fun _ => ?_)
  refine lv_aload_n hx hb dX3_has_10 rfl (lv_at hl 0 rfl) ?_
  refine lv_iload_n hx hb dX3_has_11 rfl (lv_at hl 3 rfl) ?_
  refine vp_callSi (va_runV (As := [.int (nI g)]) (rest := []) ⟨hx, hb, hml, hown, hts⟩ (conX0_holds l D T (ad (4 + k)) (ad (13 + k)) (F k) (nI g)) (cwV 1 hts gX3_has_X0_holds rfl rfl rfl (by decide +kernel) ⟨Nat.le_of_ble_eq_true rfl, Nat.le_of_ble_eq_true rfl⟩) (preV hK (hw.g k (by omega)) rfl ⟨(hw.gs k (by omega)).1, (hw.gs k (by omega)).2.1, (hw.gs k (by omega)).2.2⟩) rfl rfl hl.1 rfl (lv_room (Nat.le_of_ble_eq_true rfl)) dX3_has_12 ⟨Nat.le_of_ble_eq_true rfl, Nat.le_of_ble_eq_true rfl⟩).run (fun r2 hr2 => ?_)
  subst hr2
  exact W.zret (v := holdZ (F k) (nI g)) hx hb hr (congrArg Value.int (nar_holdZ _ _)) (fun t ht _ => ⟨holdZ (F k) (nI g), rfl, by rfl, ht⟩) (fun q hq => absurd hq List.not_mem_nil) dX3_has_15

set_option maxHeartbeats 4000000 in
set_option maxRecDepth 100000 in
theorem conX3_far (l : Launch) (D : va_G) (T : Nat → ClassId) (ad : Nat → Nat) (F V : Nat → Nat → Int32) (sr : SRs) (C : Nat → Int32) (k g : Nat) (hk : k < 8) (hg : g < 201) : Met l yX3_far wsX3_far ({ frames := 2, cells := 0, slots := 0, locals := 43 }) (cP D T [.ref (ad 0), .int (nI k), .int (nI g)] (fun H => PLW D T ad F V sr C H)) (vp_Si (fun r => (r = -1 ∧ ∀ j : Nat, j < 201 → holdZ (F k) (nI g - nI j) = 0 ∧ holdZ (F k) (nI (g + j)) = 0) ∨ ∃ j : Nat, j < 201 ∧ r = nI j ∧ (¬ holdZ (F k) (nI g - nI j) = 0 ∨ ¬ holdZ (F k) (nI (g + j)) = 0) ∧ ∀ i : Nat, i < j → holdZ (F k) (nI g - nI i) = 0 ∧ holdZ (F k) (nI (g + i)) = 0)) 0 0 (fun _ => False) := by
  refine Met.ofW (cc := cX3_far) (maxL := 5) (ret := (some .int)) (by decide) rfl ?_
  intro p e s m args below meth c s₁ B hml hv9
  obtain ⟨rfl, hK, hw⟩ := hv9
  have hx := B.exec
  have hb := B.bytes
  have hr := B.returns
  have hts := atoms_spec (ws := wsX3_far) B.pre
  have hown : s.vm.findClass RX3 = some m.cls := findClass_of_methodNamed B.named
  have hlocks := B.notSynchronized
  have hl := lv_entry ([.ref (ad 0), .int (nI k), .int (nI g)]) (n := 5) (Nat.le_of_ble_eq_true rfl)
  rw [lg_entry_eq]
  generalize (lg_sl ([.ref (ad 0), .int (nI k), .int (nI g)]) ++ List.replicate (5 - (lg_sl ([.ref (ad 0), .int (nI k), .int (nI g)])).length) Slot.unset).toArray = ls at hl ⊢
  have hl : lv_has ls 5 [(0, .ref (ad 0)), (1, .int (nI k)), (2, .int (nI g))] := hl
  refine lv_aload_n hx hb dX3_far_0 rfl (lv_at hl 0 rfl) ?_
  refine lv_iload_n hx hb dX3_far_1 rfl (lv_at hl 1 rfl) ?_
  refine va_csr (ad := fun k => .ref k) (va_runV (As := [.int (nI k)]) (rest := []) ⟨hx, hb, hml, hown, hts⟩ (conX3_setAt l D T ad F V sr C k (by omega)) (cwV 1 hts gX3_far_X3_setAt rfl rfl rfl (by decide +kernel) ⟨Nat.le_of_ble_eq_true rfl, Nat.le_of_ble_eq_true rfl⟩) (preV hK hw.o rfl hw) rfl rfl hl.1 rfl (lv_room (Nat.le_of_ble_eq_true rfl)) dX3_far_2 ⟨Nat.le_of_ble_eq_true rfl, Nat.le_of_ble_eq_true rfl⟩).run (fun r1 hr1 => ?_)
  subst hr1
  refine lv_astore_n (lv' := [(3, .ref (ad (4 + k))), (0, .ref (ad 0)), (1, .int (nI k)), (2, .int (nI g))]) hx hb dX3_far_5 rfl hl (by decide) rfl (fun ls hl => ?_)
  refine lv_iload_n hx hb dX3_far_6 rfl (lv_at hl 3 rfl) ?_
  refine va_csv (va_runS (As := [.int (nI g)]) (rest := []) ⟨hx, hb, hml, hown, hts⟩ (conX3_checkGrain l D T g (by omega)) (va_cwS 1 hts gX3_far_X3_checkGrain rfl rfl rfl (by decide +kernel) ⟨Nat.le_of_ble_eq_true rfl, Nat.le_of_ble_eq_true rfl⟩) (preS hK trivial) rfl rfl hl.1 rfl (lv_room (Nat.le_of_ble_eq_true rfl)) dX3_far_7 ⟨Nat.le_of_ble_eq_true rfl, Nat.le_of_ble_eq_true rfl⟩).run (fun _ => ?_)
  refine lv_iconst (v := nI 0) hx hb dX3_far_10 (by decide) ?_
  refine lv_istore (lv' := [(4, .int (nI 0)), (3, .ref (ad (4 + k))), (0, .ref (ad 0)), (1, .int (nI k)), (2, .int (nI g))]) hx hb dX3_far_11 hl (by decide) rfl (fun ls hl => ?_)
  refine q_for (fun (i : Nat) (H : Heap) (locs : List Loc) (ls : Array Slot) => H = s.heap ∧ locs = [] ∧ lv_has ls 5 [(4, .int (nI i)), (3, .ref (ad (4 + k))), (0, .ref (ad 0)), (1, .int (nI k)), (2, .int (nI g))] ∧ ∀ j : Nat, j < i → holdZ (F k) (nI g - nI j) = 0 ∧ holdZ (F k) (nI (g + j)) = 0) (N := 201) 0 (by omega) ?_ ?_ ?_
  · skip
    exact ⟨rfl, rfl, lv_sub hl [0, 1, 2, 3, 4] rfl, (by intro j hj; omega)⟩
  · skip
    intro i H locs ls hi9 hin9 hnext
    obtain ⟨rfl, rfl, hl, hin⟩ := hin9
    refine lv_iload hx hb dX3_far_13 (lv_at hl 0 rfl) ?_
    refine lv_sipush (v := nI 201) hx hb dX3_far_15 (by decide) ?_
    refine lv_icmp_ge (tgt := 52) hx hb dX3_far_18 (by decide) (fun c18 => ?_) (fun c18 => ?_)
    · skip
      have c18 : 201 ≤ i := (nc_le (a := 201) (b := i) (by omega) (by omega)).mp c18
      omega
    · skip
      have c18 : ¬ (201 ≤ i) := fun q9 => c18 ((nc_le (a := 201) (b := i) (by omega) (by omega)).mpr q9)
      refine lv_aload_n hx hb dX3_far_21 rfl (lv_at hl 1 rfl) ?_
      refine lv_iload_n hx hb dX3_far_22 rfl (lv_at hl 4 rfl) ?_
      refine lv_iload hx hb dX3_far_23 (lv_at hl 0 rfl) ?_
      refine lv_isub hx hb dX3_far_25 ?_
      refine vp_callSi (va_runV (As := [.int ((nI g) - (nI i))]) (rest := []) ⟨hx, hb, hml, hown, hts⟩ (conX0_holds l D T (ad (4 + k)) (ad (13 + k)) (F k) ((nI g) - (nI i))) (cwV 1 hts gX3_far_X0_holds rfl rfl rfl (by decide +kernel) ⟨Nat.le_of_ble_eq_true rfl, Nat.le_of_ble_eq_true rfl⟩) (preV hK (hw.g k (by omega)) rfl ⟨(hw.gs k (by omega)).1, (hw.gs k (by omega)).2.1, (hw.gs k (by omega)).2.2⟩) rfl rfl hl.1 rfl (lv_room (Nat.le_of_ble_eq_true rfl)) dX3_far_26 ⟨Nat.le_of_ble_eq_true rfl, Nat.le_of_ble_eq_true rfl⟩).run (fun r2 hr2 => ?_)
      subst hr2
      refine lv_if_ne (tgt := 43) hx hb dX3_far_29 (by decide) (fun c29 => ?_) (fun c29 => ?_)
      · skip
        refine lv_iload hx hb dX3_far_43 (lv_at hl 0 rfl) ?_
        exact W.iret (v := nI i) hx hb hr (fun t ht _ => ⟨nI i, rfl, by exact Or.inr ⟨i, by omega, rfl, (by first | exact Or.inl c29 | exact Or.inr c40), hin⟩, ht⟩) (fun q hq => absurd hq List.not_mem_nil) dX3_far_45
      · skip
        refine lv_aload_n hx hb dX3_far_32 rfl (lv_at hl 1 rfl) ?_
        refine lv_iload_n hx hb dX3_far_33 rfl (lv_at hl 4 rfl) ?_
        refine lv_iload hx hb dX3_far_34 (lv_at hl 0 rfl) ?_
        refine lv_iadd hx hb dX3_far_36 ?_
        rw [nI_add]
        refine vp_callSi (va_runV (As := [.int (nI (g + i))]) (rest := []) ⟨hx, hb, hml, hown, hts⟩ (conX0_holds l D T (ad (4 + k)) (ad (13 + k)) (F k) (nI (g + i))) (cwV 1 hts gX3_far_X0_holds rfl rfl rfl (by decide +kernel) ⟨Nat.le_of_ble_eq_true rfl, Nat.le_of_ble_eq_true rfl⟩) (preV hK (hw.g k (by omega)) rfl ⟨(hw.gs k (by omega)).1, (hw.gs k (by omega)).2.1, (hw.gs k (by omega)).2.2⟩) rfl rfl hl.1 rfl (lv_room (Nat.le_of_ble_eq_true rfl)) dX3_far_37 ⟨Nat.le_of_ble_eq_true rfl, Nat.le_of_ble_eq_true rfl⟩).run (fun r3 hr3 => ?_)
        subst hr3
        refine lv_if_eq (tgt := 46) hx hb dX3_far_40 (by decide) (fun c40 => ?_) (fun c40 => ?_)
        · skip
          refine lv_iinc (v := nI (i + 1)) (lv' := [(4, .int (nI (i + 1))), (3, .ref (ad (4 + k))), (0, .ref (ad 0)), (1, .int (nI k)), (2, .int (nI g))]) hx hb dX3_far_46 hl (k := 0) rfl (inc_1 _) (by decide) rfl (fun ls hl => ?_)
          refine lv_goto (tgt := 13) hx hb dX3_far_49 (by decide) ?_
          exact hnext _ _ _ ⟨rfl, rfl, lv_sub hl [0, 1, 2, 3, 4] rfl, (by intro j hj; rcases Nat.lt_succ_iff_lt_or_eq.mp hj with q | rfl; exact hin j q; exact ⟨c29, c40⟩)⟩
        · skip
          refine lv_iload hx hb dX3_far_43 (lv_at hl 0 rfl) ?_
          exact W.iret (v := nI i) hx hb hr (fun t ht _ => ⟨nI i, rfl, by exact Or.inr ⟨i, by omega, rfl, (by first | exact Or.inl c29 | exact Or.inr c40), hin⟩, ht⟩) (fun q hq => absurd hq List.not_mem_nil) dX3_far_45
  · skip
    intro H locs ls hin9
    obtain ⟨rfl, rfl, hl, hin⟩ := hin9
    refine lv_iload hx hb dX3_far_13 (lv_at hl 0 rfl) ?_
    refine lv_sipush (v := nI 201) hx hb dX3_far_15 (by decide) ?_
    refine lv_icmp_ge (tgt := 52) hx hb dX3_far_18 (by decide) (fun c18 => ?_) (fun c18 => ?_)
    · skip
      have c18 : 201 ≤ 201 := (nc_le (a := 201) (b := 201) (by omega) (by omega)).mp c18
      refine lv_iconst (v := (-1)) hx hb dX3_far_52 (by decide) ?_
      exact W.iret (v := (-1)) hx hb hr (fun t ht _ => ⟨(-1), rfl, by exact Or.inl ⟨rfl, hin⟩, ht⟩) (fun q hq => absurd hq List.not_mem_nil) dX3_far_53
    · skip
      have c18 : ¬ (201 ≤ 201) := fun q9 => c18 ((nc_le (a := 201) (b := 201) (by omega) (by omega)).mpr q9)
      omega

set_option maxHeartbeats 4000000 in
set_option maxRecDepth 100000 in
theorem conX3_canLie (l : Launch) (D : va_G) (T : Nat → ClassId) (ad : Nat → Nat) (F V : Nat → Nat → Int32) (sr : SRs) (C : Nat → Int32) (k j : Nat) (by9 : Int32) (hk : k < 9) (hj : j < 9) : Met l yX3_canLie wsX3_canLie ({ frames := 1, cells := 0, slots := 0, locals := 21 }) (cP D T [.ref (ad (4 + k)), .int by9, .ref (ad (4 + j))] (fun H => PLW D T ad F V sr C H)) (vp_Si (fun r => (r = nI 1 ∧ ∀ i : Nat, i < 201 → lieP (F k) (F j) (nI 2 * by9) i) ∨ (r = nI 0 ∧ ∃ i : Nat, i < 201 ∧ ¬ lieP (F k) (F j) (nI 2 * by9) i))) 0 0 (fun _ => False) := by
  refine Met.ofW (cc := cX3_canLie) (maxL := 5) (ret := (some .boolean)) (by decide) rfl ?_
  intro p e s m args below meth c s₁ B hml hv9
  obtain ⟨rfl, hK, hw⟩ := hv9
  have hx := B.exec
  have hb := B.bytes
  have hr := B.returns
  have hts := atoms_spec (ws := wsX3_canLie) B.pre
  have hown : s.vm.findClass RX3 = some m.cls := findClass_of_methodNamed B.named
  have hlocks := B.notSynchronized
  have hl := lv_entry ([.ref (ad (4 + k)), .int by9, .ref (ad (4 + j))]) (n := 5) (Nat.le_of_ble_eq_true rfl)
  rw [lg_entry_eq]
  generalize (lg_sl ([.ref (ad (4 + k)), .int by9, .ref (ad (4 + j))]) ++ List.replicate (5 - (lg_sl ([.ref (ad (4 + k)), .int by9, .ref (ad (4 + j))])).length) Slot.unset).toArray = ls at hl ⊢
  have hl : lv_has ls 5 [(0, .ref (ad (4 + k))), (1, .int by9), (2, .ref (ad (4 + j)))] := hl
  refine lv_iconst (v := nI 0) hx hb dX3_canLie_0 (by decide) ?_
  refine lv_istore_n (lv' := [(3, .int (nI 0)), (0, .ref (ad (4 + k))), (1, .int by9), (2, .ref (ad (4 + j)))]) hx hb dX3_canLie_1 rfl hl (by decide) rfl (fun ls hl => ?_)
  refine q_for (fun (i : Nat) (H : Heap) (locs : List Loc) (ls : Array Slot) => H = s.heap ∧ locs = [] ∧ lv_has ls 5 [(3, .int (nI i)), (0, .ref (ad (4 + k))), (1, .int by9), (2, .ref (ad (4 + j)))] ∧ ∀ i9 : Nat, i9 < i → lieP (F k) (F j) (nI 2 * by9) i9) (N := 201) 0 (by omega) ?_ ?_ ?_
  · skip
    exact ⟨rfl, rfl, lv_sub hl [0, 1, 2, 3] rfl, (by intro j hj; omega)⟩
  · skip
    intro i H locs ls hi9 hin9 hnext
    obtain ⟨rfl, rfl, hl, hin⟩ := hin9
    refine lv_iload_n hx hb dX3_canLie_2 rfl (lv_at hl 0 rfl) ?_
    refine lv_sipush (v := nI 201) hx hb dX3_canLie_3 (by decide) ?_
    refine lv_icmp_ge (tgt := 54) hx hb dX3_canLie_6 (by decide) (fun c6 => ?_) (fun c6 => ?_)
    · skip
      have c6 : 201 ≤ i := (nc_le (a := 201) (b := i) (by omega) (by omega)).mp c6
      omega
    · skip
      have c6 : ¬ (201 ≤ i) := fun q9 => c6 ((nc_le (a := 201) (b := i) (by omega) (by omega)).mpr q9)
      refine lv_aload_n hx hb dX3_canLie_9 rfl (lv_at hl 1 rfl) ?_
      refine lv_iload_n hx hb dX3_canLie_10 rfl (lv_at hl 0 rfl) ?_
      refine vp_callSi (va_runV (As := [.int (nI i)]) (rest := []) ⟨hx, hb, hml, hown, hts⟩ (conX0_holds l D T (ad (4 + k)) (ad (13 + k)) (F k) (nI i)) (cwV 1 hts gX3_canLie_X0_holds rfl rfl rfl (by decide +kernel) ⟨Nat.le_of_ble_eq_true rfl, Nat.le_of_ble_eq_true rfl⟩) (preV hK (hw.g k (by omega)) rfl ⟨(hw.gs k (by omega)).1, (hw.gs k (by omega)).2.1, (hw.gs k (by omega)).2.2⟩) rfl rfl hl.1 rfl (lv_room (Nat.le_of_ble_eq_true rfl)) dX3_canLie_11 ⟨Nat.le_of_ble_eq_true rfl, Nat.le_of_ble_eq_true rfl⟩).run (fun r1 hr1 => ?_)
      subst hr1
      refine lv_if_eq (tgt := 48) hx hb dX3_canLie_14 (by decide) (fun c14 => ?_) (fun c14 => ?_)
      · skip
        refine lv_iinc (v := nI (i + 1)) (lv' := [(3, .int (nI (i + 1))), (0, .ref (ad (4 + k))), (1, .int by9), (2, .ref (ad (4 + j)))]) hx hb dX3_canLie_48 hl (k := 0) rfl (inc_1 _) (by decide) rfl (fun ls hl => ?_)
        refine lv_goto (tgt := 2) hx hb dX3_canLie_51 (by decide) ?_
        exact hnext _ _ _ ⟨rfl, rfl, lv_sub hl [0, 1, 2, 3] rfl, (by intro i9 hj9; rcases Nat.lt_succ_iff_lt_or_eq.mp hj9 with q | rfl; exact hin i9 q; first | exact Or.inl c14 | exact Or.inr ⟨c26, c34, c43⟩)⟩
      · skip
        refine lv_iload_n hx hb dX3_canLie_17 rfl (lv_at hl 0 rfl) ?_
        refine lv_iconst (v := nI 2) hx hb dX3_canLie_18 (by decide) ?_
        refine lv_iload_n hx hb dX3_canLie_19 rfl (lv_at hl 2 rfl) ?_
        refine lv_imul hx hb dX3_canLie_20 ?_
        refine lv_iadd hx hb dX3_canLie_21 ?_
        refine lv_istore (lv' := [(4, .int ((nI i) + ((nI 2) * by9))), (3, .int (nI i)), (0, .ref (ad (4 + k))), (1, .int by9), (2, .ref (ad (4 + j)))]) hx hb dX3_canLie_22 hl (by decide) rfl (fun ls hl => ?_)
        refine lv_iload hx hb dX3_canLie_24 (lv_at hl 0 rfl) ?_
        refine lv_if_lt (tgt := 46) hx hb dX3_canLie_26 (by decide) (fun c26 => ?_) (fun c26 => ?_)
        · skip
          refine lv_iconst (v := nI 0) hx hb dX3_canLie_46 (by decide) ?_
          exact W.zret (v := nI 0) hx hb hr (rfl) (fun t ht _ => ⟨nI 0, rfl, by refine Or.inr ⟨rfl, i, by omega, ?_⟩; unfold lieP; simp_all, ht⟩) (fun q hq => absurd hq List.not_mem_nil) dX3_canLie_47
        · skip
          refine lv_iload hx hb dX3_canLie_29 (lv_at hl 0 rfl) ?_
          refine lv_sipush (v := nI 201) hx hb dX3_canLie_31 (by decide) ?_
          refine lv_icmp_ge (tgt := 46) hx hb dX3_canLie_34 (by decide) (fun c34 => ?_) (fun c34 => ?_)
          · skip
            refine lv_iconst (v := nI 0) hx hb dX3_canLie_46 (by decide) ?_
            exact W.zret (v := nI 0) hx hb hr (rfl) (fun t ht _ => ⟨nI 0, rfl, by refine Or.inr ⟨rfl, i, by omega, ?_⟩; unfold lieP; simp_all, ht⟩) (fun q hq => absurd hq List.not_mem_nil) dX3_canLie_47
          · skip
            refine lv_aload_n hx hb dX3_canLie_37 rfl (lv_at hl 4 rfl) ?_
            refine lv_iload hx hb dX3_canLie_38 (lv_at hl 0 rfl) ?_
            refine vp_callSi (va_runV (As := [.int ((nI i) + ((nI 2) * by9))]) (rest := []) ⟨hx, hb, hml, hown, hts⟩ (conX0_holds l D T (ad (4 + j)) (ad (13 + j)) (F j) ((nI i) + ((nI 2) * by9))) (cwV 1 hts gX3_canLie_X0_holds rfl rfl rfl (by decide +kernel) ⟨Nat.le_of_ble_eq_true rfl, Nat.le_of_ble_eq_true rfl⟩) (preV hK (hw.g j (by omega)) rfl ⟨(hw.gs j (by omega)).1, (hw.gs j (by omega)).2.1, (hw.gs j (by omega)).2.2⟩) rfl rfl hl.1 rfl (lv_room (Nat.le_of_ble_eq_true rfl)) dX3_canLie_40 ⟨Nat.le_of_ble_eq_true rfl, Nat.le_of_ble_eq_true rfl⟩).run (fun r2 hr2 => ?_)
            subst hr2
            refine lv_if_eq (tgt := 48) hx hb dX3_canLie_43 (by decide) (fun c43 => ?_) (fun c43 => ?_)
            · skip
              refine lv_iinc (v := nI (i + 1)) (lv' := [(3, .int (nI (i + 1))), (4, .int ((nI i) + ((nI 2) * by9))), (0, .ref (ad (4 + k))), (1, .int by9), (2, .ref (ad (4 + j)))]) hx hb dX3_canLie_48 hl (k := 1) rfl (inc_1 _) (by decide) rfl (fun ls hl => ?_)
              refine lv_goto (tgt := 2) hx hb dX3_canLie_51 (by decide) ?_
              exact hnext _ _ _ ⟨rfl, rfl, lv_sub hl [0, 2, 3, 4] rfl, (by intro i9 hj9; rcases Nat.lt_succ_iff_lt_or_eq.mp hj9 with q | rfl; exact hin i9 q; first | exact Or.inl c14 | exact Or.inr ⟨c26, c34, c43⟩)⟩
            · skip
              refine lv_iconst (v := nI 0) hx hb dX3_canLie_46 (by decide) ?_
              exact W.zret (v := nI 0) hx hb hr (rfl) (fun t ht _ => ⟨nI 0, rfl, by refine Or.inr ⟨rfl, i, by omega, ?_⟩; unfold lieP; simp_all, ht⟩) (fun q hq => absurd hq List.not_mem_nil) dX3_canLie_47
  · skip
    intro H locs ls hin9
    obtain ⟨rfl, rfl, hl, hin⟩ := hin9
    refine lv_iload_n hx hb dX3_canLie_2 rfl (lv_at hl 0 rfl) ?_
    refine lv_sipush (v := nI 201) hx hb dX3_canLie_3 (by decide) ?_
    refine lv_icmp_ge (tgt := 54) hx hb dX3_canLie_6 (by decide) (fun c6 => ?_) (fun c6 => ?_)
    · skip
      have c6 : 201 ≤ 201 := (nc_le (a := 201) (b := 201) (by omega) (by omega)).mp c6
      refine lv_iconst (v := nI 1) hx hb dX3_canLie_54 (by decide) ?_
      exact W.zret (v := nI 1) hx hb hr (rfl) (fun t ht _ => ⟨nI 1, rfl, by exact Or.inl ⟨rfl, hin⟩, ht⟩) (fun q hq => absurd hq List.not_mem_nil) dX3_canLie_55
    · skip
      have c6 : ¬ (201 ≤ 201) := fun q9 => c6 ((nc_le (a := 201) (b := 201) (by omega) (by omega)).mpr q9)
      omega
